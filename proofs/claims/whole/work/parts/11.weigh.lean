theorem qC.votS {dd : va_G} {ga : Nat → ClassId} {n k : Nat} {ad : Nat → Nat → Nat} {σ : qSt} {H : Heap} (h : qC dd ga n k ad σ H) {i b : Nat} {u : Int32} (hi : i < n) (hln : σ.2.1 i = some (b, u)) : va_at dd vwCl (ad 11 i, .inr (2, [.ref (ad 12 i), .int (nI b), .int u, .int (σ.1 6 i)])) H := by
  have h9 := h.vot i hi
  rw [hln] at h9
  exact h9
set_option maxHeartbeats 4000000 in
set_option maxRecDepth 100000 in
/-- X4_weighRequest -/
theorem c_X4_weighRequest (l : Launch) (dd : va_G) (ga : Nat → ClassId) (n k : Nat) (ad : Nat → Nat → Nat) (σ : qSt) (hsq : qSq n k) (hL : qL n ad) (i a : Nat) (hi : i < n) (ha : a < n) (t : Int32) (hcap : qCap n k σ) : Met l yX4_weighRequest wsX4_weighRequest ({ frames := 4, cells := 0, slots := 0, locals := 96 }) (qPc dd ga [.ref (ad 0 0), .int (nI i), .int (nI a), .int t] (fun H => qC dd ga n k ad σ H)) (qQv (fun H => qC dd ga n k ad (q_asked σ i a t) H) (qA n ad)) 0 0 (qA n ad) := by
  refine Met.ofW (cc := cX4_weighRequest) (maxL := 7) (ret := none) (by decide) rfl ?_
  intro p e s m args below meth c s₁ B hml hv
  obtain ⟨rfl, hC, hK⟩ := hv
  have hx := B.exec
  have hb := B.bytes
  have hr := B.returns
  have hts := atoms_spec (ws := wsX4_weighRequest) B.pre
  have hown : s.vm.findClass RX4 = some m.cls := findClass_of_methodNamed B.named
  have hlocks := B.notSynchronized
  have hS : qS (qA n ad) s.heap s.heap [] := qS.rf
  have hl := lv_entry ([.ref (ad 0 0), .int (nI i), .int (nI a), .int t]) (n := 7) (Nat.le_of_ble_eq_true rfl)
  rw [lg_entry_eq]
  generalize (lg_sl ([.ref (ad 0 0), .int (nI i), .int (nI a), .int t]) ++ List.replicate (7 - (lg_sl ([.ref (ad 0 0), .int (nI i), .int (nI a), .int t])).length) Slot.unset).toArray = ls at hl ⊢
  have hin1 : ∀ w ∈ wsX10, w ∈ wsX4_weighRequest := by decide +kernel
  have hin2 : ∀ w ∈ wsX20, w ∈ wsX4_weighRequest := by decide +kernel
  have hin4 : ∀ w ∈ wsX40, w ∈ wsX4_weighRequest := by decide +kernel
  have hn1 := hsq.n.1
  have hn16 := hsq.n.2
  obtain ⟨hcw, hcr, hcx, hcl, hci⟩ := id hcap
  have hk4 := hsq.2.2
  have hrl := hcr i hi
  have hr31 : ∀ x ∈ σ.2.2.1 i, x.1 < 2 ^ 31 := fun x hx => by have := hcx i hi x hx; omega
  rcases hln : σ.2.1 i with _ | ⟨b, u⟩
  · refine lv_aload_n hx hb dX4_weighRequest_0 rfl (lv_at hl 0 rfl) ?_
    refine qr_get (ci := 4) (C := RX4) (T := TX4) (N := 7) hx hb hts hin4 hown hK hC.self rfl 4 (by decide) (hts (.fieldLink RX4 37 "QuorumLock" "voters" "[LQuorumLock$Voter;") (by decide +kernel)) rfl dX4_weighRequest_1 ?_
    refine lv_iload_n hx hb dX4_weighRequest_4 rfl (lv_at hl 1 rfl) ?_
    refine qr_aald (v := ad 11 i) hx hb hK 3 hC.arV rfl i (by omega) (by omega) rfl rfl dX4_weighRequest_5 ?_
    refine lv_astore (lv' := [(4, .ref (ad 11 i)), (0, .ref (ad 0 0)), (1, .int (nI i)), (2, .int (nI a)), (3, .int t)]) hx hb dX4_weighRequest_6 hl (by decide) rfl (fun ls hl => ?_)
    refine lv_aload hx hb dX4_weighRequest_8 (lv_at hl 0 rfl) ?_
    refine qr_get (ci := 2) (C := RX2) (T := TX2) (N := 4) hx hb hts hin2 hown hK (hC.vot i hi) rfl 1 (by decide) (hts (.fieldLink RX4 103 "QuorumLock$Voter" "lentTo" "I") (by decide +kernel)) rfl dX4_weighRequest_10 ?_
    refine lv_iconst (v := (-1)) hx hb dX4_weighRequest_13 (by decide) ?_
    refine lv_icmp_ne (tgt := 25) hx hb dX4_weighRequest_14 (by decide) (fun c_14 => absurd (by rw [hln]; rfl) c_14) (fun c_14 => ?_)
    refine lv_aload_n hx hb dX4_weighRequest_17 rfl (lv_at hl 1 rfl) ?_
    refine lv_iload_n hx hb dX4_weighRequest_18 rfl (lv_at hl 2 rfl) ?_
    refine lv_iload_n hx hb dX4_weighRequest_19 rfl (lv_at hl 3 rfl) ?_
    refine lv_iload_n hx hb dX4_weighRequest_20 rfl (lv_at hl 4 rfl) ?_
    refine qc_v (va_runV (As := [.int (nI i), .int (nI a), .int t]) (rest := []) ⟨hx, hb, hml, hown, hts⟩ (c_X4_lend l dd ga n k ad σ hsq hL i a hi ha t (by have := hcw i a hi ha; omega)) (cwV 3 hts gX4_weighRequest_X4_lend rfl rfl rfl (by decide +kernel) ⟨Nat.le_of_ble_eq_true rfl, Nat.le_of_ble_eq_true rfl⟩) (qpreV hK hC hC.self rfl) rfl rfl hl.1 rfl (lv_room (Nat.le_of_ble_eq_true rfl)) dX4_weighRequest_21 ⟨Nat.zero_le _, Nat.zero_le _⟩) hS (fun q h => h) (fun H locs hp9 hz9 ho9 hS => ?_)
    have hC := hp9
    exact q_vret hx hb hr hlocks hS (by rw [q_asked_none hln]; exact hC) dX4_weighRequest_24
  · have hb9 : b < n := hcl i hi (b, u) hln
    refine lv_aload_n hx hb dX4_weighRequest_0 rfl (lv_at hl 0 rfl) ?_
    refine qr_get (ci := 4) (C := RX4) (T := TX4) (N := 7) hx hb hts hin4 hown hK hC.self rfl 4 (by decide) (hts (.fieldLink RX4 37 "QuorumLock" "voters" "[LQuorumLock$Voter;") (by decide +kernel)) rfl dX4_weighRequest_1 ?_
    refine lv_iload_n hx hb dX4_weighRequest_4 rfl (lv_at hl 1 rfl) ?_
    refine qr_aald (v := ad 11 i) hx hb hK 3 hC.arV rfl i (by omega) (by omega) rfl rfl dX4_weighRequest_5 ?_
    refine lv_astore (lv' := [(4, .ref (ad 11 i)), (0, .ref (ad 0 0)), (1, .int (nI i)), (2, .int (nI a)), (3, .int t)]) hx hb dX4_weighRequest_6 hl (by decide) rfl (fun ls hl => ?_)
    refine lv_aload hx hb dX4_weighRequest_8 (lv_at hl 0 rfl) ?_
    refine qr_get (ci := 2) (C := RX2) (T := TX2) (N := 4) hx hb hts hin2 hown hK (hC.vot i hi) rfl 1 (by decide) (hts (.fieldLink RX4 103 "QuorumLock$Voter" "lentTo" "I") (by decide +kernel)) rfl dX4_weighRequest_10 ?_
    refine lv_iconst (v := (-1)) hx hb dX4_weighRequest_13 (by decide) ?_
    refine lv_icmp_ne (tgt := 25) hx hb dX4_weighRequest_14 (by decide) (fun c_14 => ?_) (fun c_14 => absurd c_14 (by rw [hln]; exact q_nI_m1 (by omega)))
    refine lv_aload hx hb dX4_weighRequest_25 (lv_at hl 0 rfl) ?_
    refine qc_i (va_runV (As := []) (rest := []) ⟨hx, hb, hml, hown, hts⟩ (c_X2_isPressed l dd ga (2 * k - 1) (ad 11 i) (ad 12 i) (ad 13 i) (ad 14 i) b u (σ.1 6 i) (σ.2.2.1 i) (by omega) (by omega) (by omega) hr31) (cwV 0 hts gX4_weighRequest_X2_isPressed rfl rfl rfl (by decide +kernel) ⟨Nat.le_of_ble_eq_true rfl, Nat.le_of_ble_eq_true rfl⟩) (qpreV hK (⟨hC.votS hi hln, hC.row i hi⟩) (hC.votS hi hln) rfl) rfl rfl hl.1 rfl (lv_room (Nat.le_of_ble_eq_true rfl)) dX4_weighRequest_27 ⟨Nat.zero_le _, Nat.zero_le _⟩) hS (fun q h => h.elim) (fun v27 H locs hp9 hz9 ho9 hS => ?_)
    have e27 : v27 = _ := hp9
    have hC := hC.same (fun q => ho9 q (fun h => h))
    refine lv_istore (lv' := [(5, .int v27), (4, .ref (ad 11 i)), (0, .ref (ad 0 0)), (1, .int (nI i)), (2, .int (nI a)), (3, .int t)]) hx hb dX4_weighRequest_30 hl (by decide) rfl (fun ls hl => ?_)
    refine lv_aload hx hb dX4_weighRequest_32 (lv_at hl 1 rfl) ?_
    refine qr_get (ci := 2) (C := RX2) (T := TX2) (N := 4) hx hb hts hin2 hown hK (hC.vot i hi) rfl 0 (by decide) (hts (.fieldLink RX4 130 "QuorumLock$Voter" "row" "LQuorumLock$Row;") (by decide +kernel)) rfl dX4_weighRequest_34 ?_
    refine lv_iload_n hx hb dX4_weighRequest_37 rfl (lv_at hl 4 rfl) ?_
    refine lv_iload_n hx hb dX4_weighRequest_38 rfl (lv_at hl 5 rfl) ?_
    refine qc_i (va_runV (As := [.int (nI a), .int t]) (rest := []) ⟨hx, hb, hml, hown, hts⟩ (c_X1_insert l dd ga (2 * k - 1) (ad 12 i) (ad 13 i) (ad 14 i) (σ.2.2.1 i) (by omega) (by omega) (hL.ne (qd.i (by decide) (by decide) hi) (qd.i (by decide) (by decide) hi) (by omega)) (hL.ne (qd.i (by decide) (by decide) hi) (qd.i (by decide) (by decide) hi) (by omega)) (hL.ne (qd.i (by decide) (by decide) hi) (qd.i (by decide) (by decide) hi) (by omega)) a t (by omega) hr31) (cwV 2 hts gX4_weighRequest_X1_insert rfl rfl rfl (by decide +kernel) ⟨Nat.le_of_ble_eq_true rfl, Nat.le_of_ble_eq_true rfl⟩) (qpreV hK (hC.row i hi) ((hC.row i hi).obj) rfl) rfl rfl hl.1 rfl (lv_room (Nat.le_of_ble_eq_true rfl)) dX4_weighRequest_39 ⟨Nat.zero_le _, Nat.zero_le _⟩) hS (fun q h => qA.row hi h) (fun v39 H locs hp9 hz9 ho9 hS => ?_)
    have e39 : v39 = _ := hp9.1
    have hC := hC.putRow (σ' := s_rw σ i (q_ins (σ.2.2.1 i) a t)) hL hi ho9 (by simpa [s_rw, va_up] using hp9.2) rfl rfl (fun j h => va_up_ne _ _ h) rfl
    have er1 : (s_rw σ i (q_ins (σ.2.2.1 i) a t)).2.2.1 i = q_ins (σ.2.2.1 i) a t := by simp [s_rw, va_up]
    have hpl := q_pl_le (σ.2.2.1 i) a t (σ.2.2.1 i).length
    have hr32 : ∀ x ∈ (s_rw σ i (q_ins (σ.2.2.1 i) a t)).2.2.1 i, x.1 < 2 ^ 31 := fun x hx => by rw [er1] at hx; rcases q_ins_mem hx with h | h; (rw [h]; show a < _; omega); exact hr31 x h
    refine lv_if_ne (tgt := 49) hx hb dX4_weighRequest_42 (by decide) (fun c_42 => ?_) (fun c_42 => ?_)
    · have hno : ¬ (q_pl (σ.2.2.1 i) a t (σ.2.2.1 i).length = 0 ∧ q_bef t a u b = true) := fun h => c_42 (by rw [e39, h.1]; rfl)
      refine lv_iconst (v := 0) hx hb dX4_weighRequest_49 (by decide) ?_
      refine lv_istore (lv' := [(6, .int 0), (5, .int v27), (4, .ref (ad 11 i)), (0, .ref (ad 0 0)), (1, .int (nI i)), (2, .int (nI a)), (3, .int t)]) hx hb dX4_weighRequest_50 hl (by decide) rfl (fun ls hl => ?_)
      refine lv_iload hx hb dX4_weighRequest_52 (lv_at hl 0 rfl) ?_
      refine lv_if_eq (tgt := 103) hx hb dX4_weighRequest_54 (by decide) (fun c_54 => ?_) (fun c_54 => absurd (by decide) c_54)
      refine lv_aload_n hx hb dX4_weighRequest_103 rfl (lv_at hl 3 rfl) ?_
      refine lv_iload_n hx hb dX4_weighRequest_104 rfl (lv_at hl 4 rfl) ?_
      refine lv_iload_n hx hb dX4_weighRequest_105 rfl (lv_at hl 5 rfl) ?_
      refine lv_bipush (v := 6) hx hb dX4_weighRequest_106 (by decide) ?_
      refine lv_iload_n hx hb dX4_weighRequest_108 rfl (lv_at hl 6 rfl) ?_
      refine qc_v (va_runV (As := [.int (nI i), .int (nI a), .int 6, .int t]) (rest := []) ⟨hx, hb, hml, hown, hts⟩ (c_X4_send l dd ga n k ad (s_rw σ i (q_ins (σ.2.2.1 i) a t)) hsq hL i a hi ha 6 t (by have h9 := hcw i a hi ha; show (σ.2.2.2.1 i a).length < 8; omega)) (cwV 4 hts gX4_weighRequest_X4_send rfl rfl rfl (by decide +kernel) ⟨Nat.le_of_ble_eq_true rfl, Nat.le_of_ble_eq_true rfl⟩) (qpreV hK hC hC.self rfl) rfl rfl hl.1 rfl (lv_room (Nat.le_of_ble_eq_true rfl)) dX4_weighRequest_109 ⟨Nat.zero_le _, Nat.zero_le _⟩) hS (fun q h => h) (fun H locs hp9 hz9 ho9 hS => ?_)
      have hC := hp9
      rw [← q_asked_no hln hno] at hC
      have hfin := hC
      exact q_vret hx hb hr hlocks hS hfin dX4_weighRequest_112
    · have hp0 : q_pl (σ.2.2.1 i) a t (σ.2.2.1 i).length = 0 := (nI_eq (a := q_pl (σ.2.2.1 i) a t (σ.2.2.1 i).length) (b := 0) (by omega) (by decide)).mp (e39.symm.trans c_42)
      refine lv_iconst (v := 1) hx hb dX4_weighRequest_45 (by decide) ?_
      refine lv_goto (tgt := 50) hx hb dX4_weighRequest_46 (by decide) ?_
      refine lv_istore (lv' := [(6, .int 1), (5, .int v27), (4, .ref (ad 11 i)), (0, .ref (ad 0 0)), (1, .int (nI i)), (2, .int (nI a)), (3, .int t)]) hx hb dX4_weighRequest_50 hl (by decide) rfl (fun ls hl => ?_)
      refine lv_iload hx hb dX4_weighRequest_52 (lv_at hl 0 rfl) ?_
      refine lv_if_eq (tgt := 103) hx hb dX4_weighRequest_54 (by decide) (fun c_54 => absurd c_54 (by decide)) (fun c_54 => ?_)
      refine lv_aload hx hb dX4_weighRequest_57 (lv_at hl 2 rfl) ?_
      refine qc_i (va_runV (As := []) (rest := []) ⟨hx, hb, hml, hown, hts⟩ (c_X2_isPressed l dd ga (2 * k - 1) (ad 11 i) (ad 12 i) (ad 13 i) (ad 14 i) b u (σ.1 6 i) ((s_rw σ i (q_ins (σ.2.2.1 i) a t)).2.2.1 i) (by omega) (by rw [er1, q_ins_len]; omega) (by omega) hr32) (cwV 0 hts gX4_weighRequest_X2_isPressed rfl rfl rfl (by decide +kernel) ⟨Nat.le_of_ble_eq_true rfl, Nat.le_of_ble_eq_true rfl⟩) (qpreV hK (⟨hC.votS hi hln, hC.row i hi⟩) (hC.votS hi hln) rfl) rfl rfl hl.1 rfl (lv_room (Nat.le_of_ble_eq_true rfl)) dX4_weighRequest_59 ⟨Nat.zero_le _, Nat.zero_le _⟩) hS (fun q h => h.elim) (fun v59 H locs hp9 hz9 ho9 hS => ?_)
      have e59 : v59 = _ := hp9
      have hC := hC.same (fun q => ho9 q (fun h => h))
      rw [er1, q_ins0 hp0] at e59
      refine lv_if_eq (tgt := 103) hx hb dX4_weighRequest_62 (by decide) (fun c_62 => ?_) (fun c_62 => ?_)
      · have hno : ¬ (q_pl (σ.2.2.1 i) a t (σ.2.2.1 i).length = 0 ∧ q_bef t a u b = true) := fun h => by rw [if_pos (show q_press ((a, t) :: σ.2.2.1 i) u b = true from h.2)] at e59; rw [e59] at c_62; exact absurd c_62 (by decide)
        refine lv_aload_n hx hb dX4_weighRequest_103 rfl (lv_at hl 3 rfl) ?_
        refine lv_iload_n hx hb dX4_weighRequest_104 rfl (lv_at hl 4 rfl) ?_
        refine lv_iload_n hx hb dX4_weighRequest_105 rfl (lv_at hl 5 rfl) ?_
        refine lv_bipush (v := 6) hx hb dX4_weighRequest_106 (by decide) ?_
        refine lv_iload_n hx hb dX4_weighRequest_108 rfl (lv_at hl 6 rfl) ?_
        refine qc_v (va_runV (As := [.int (nI i), .int (nI a), .int 6, .int t]) (rest := []) ⟨hx, hb, hml, hown, hts⟩ (c_X4_send l dd ga n k ad (s_rw σ i (q_ins (σ.2.2.1 i) a t)) hsq hL i a hi ha 6 t (by have h9 := hcw i a hi ha; show (σ.2.2.2.1 i a).length < 8; omega)) (cwV 4 hts gX4_weighRequest_X4_send rfl rfl rfl (by decide +kernel) ⟨Nat.le_of_ble_eq_true rfl, Nat.le_of_ble_eq_true rfl⟩) (qpreV hK hC hC.self rfl) rfl rfl hl.1 rfl (lv_room (Nat.le_of_ble_eq_true rfl)) dX4_weighRequest_109 ⟨Nat.zero_le _, Nat.zero_le _⟩) hS (fun q h => h) (fun H locs hp9 hz9 ho9 hS => ?_)
        have hC := hp9
        rw [← q_asked_no hln hno] at hC
        have hfin := hC
        exact q_vret hx hb hr hlocks hS hfin dX4_weighRequest_112
      · have hbf : q_bef t a u b = true := Classical.byContradiction fun h => by rw [if_neg (show ¬ q_press ((a, t) :: σ.2.2.1 i) u b = true from h)] at e59; exact c_62 e59
        refine lv_iload hx hb dX4_weighRequest_65 (lv_at hl 1 rfl) ?_
        refine lv_if_eq (tgt := 95) hx hb dX4_weighRequest_67 (by decide) (fun c_67 => ?_) (fun c_67 => ?_)
        · have hpr : ¬ q_press (σ.2.2.1 i) u b = true := fun h => by rw [if_pos h] at e27; rw [e27] at c_67; exact absurd c_67 (by decide)
          refine lv_aload_n hx hb dX4_weighRequest_95 rfl (lv_at hl 3 rfl) ?_
          refine lv_iload_n hx hb dX4_weighRequest_96 rfl (lv_at hl 4 rfl) ?_
          refine qc_v (va_runV (As := [.int (nI i)]) (rest := []) ⟨hx, hb, hml, hown, hts⟩ (c_X4_inquireOnce l dd ga n k ad (s_rw σ i (q_ins (σ.2.2.1 i) a t)) hsq hL i b u hi hb9 hln (by have h9 := hcw i b hi hb9; show (σ.2.2.2.1 i b).length < 8; omega)) (cwV 1 hts gX4_weighRequest_X4_inquireOnce rfl rfl rfl (by decide +kernel) ⟨Nat.le_of_ble_eq_true rfl, Nat.le_of_ble_eq_true rfl⟩) (qpreV hK hC hC.self rfl) rfl rfl hl.1 rfl (lv_room (Nat.le_of_ble_eq_true rfl)) dX4_weighRequest_97 ⟨Nat.zero_le _, Nat.zero_le _⟩) hS (fun q h => h) (fun H locs hp9 hz9 ho9 hS => ?_)
          have hfin : qC dd ga n k ad (q_asked σ i a t) H := by rw [q_asked_yes0 hln hp0 hbf hpr]; exact hp9
          refine lv_goto (tgt := 112) hx hb dX4_weighRequest_100 (by decide) ?_
          exact q_vret hx hb hr hlocks hS hfin dX4_weighRequest_112
        · have hpr : q_press (σ.2.2.1 i) u b = true := Classical.byContradiction fun h => by rw [if_neg h] at e27; exact c_67 e27
          obtain ⟨x9, r9, hr9⟩ : ∃ x9 r9, σ.2.2.1 i = x9 :: r9 := by
            cases h : σ.2.2.1 i with
            | nil => rw [h] at hpr; cases hpr
            | cons x r => exact ⟨x, r, rfl⟩
          have hx9 : x9.1 < n := hcx i hi x9 (by rw [hr9]; exact List.mem_cons_self)
          refine lv_aload_n hx hb dX4_weighRequest_70 rfl (lv_at hl 3 rfl) ?_
          refine lv_iload_n hx hb dX4_weighRequest_71 rfl (lv_at hl 4 rfl) ?_
          refine lv_aload hx hb dX4_weighRequest_72 (lv_at hl 2 rfl) ?_
          refine qr_get (ci := 2) (C := RX2) (T := TX2) (N := 4) hx hb hts hin2 hown hK (hC.vot i hi) rfl 0 (by decide) (hts (.fieldLink RX4 130 "QuorumLock$Voter" "row" "LQuorumLock$Row;") (by decide +kernel)) rfl dX4_weighRequest_74 ?_
          refine lv_iconst (v := 1) hx hb dX4_weighRequest_77 (by decide) ?_
          refine qc_i (va_runV (As := [.int 1]) (rest := [.int (nI i), .ref (ad 0 0)]) ⟨hx, hb, hml, hown, hts⟩ (c_X1_nodeAt l dd ga (2 * k - 1) (ad 12 i) (ad 13 i) (ad 14 i) ((s_rw σ i (q_ins (σ.2.2.1 i) a t)).2.2.1 i) (by omega) (by rw [er1, q_ins_len]; omega) 1) (cwV 1 hts gX4_weighRequest_X1_nodeAt rfl rfl rfl (by decide +kernel) ⟨Nat.le_of_ble_eq_true rfl, Nat.le_of_ble_eq_true rfl⟩) (qpreV hK (hC.row i hi) ((hC.row i hi).obj) rfl) rfl rfl hl.1 rfl (lv_room (Nat.le_of_ble_eq_true rfl)) dX4_weighRequest_78 ⟨Nat.zero_le _, Nat.zero_le _⟩) hS (fun q h => h.elim) (fun v78 H locs hp9 hz9 ho9 hS => ?_)
          rw [er1, q_ins0 hp0, hr9, (q_at1 (by rw [hr9] at hrl; simp at hrl; omega)).1] at hp9
          subst hp9
          have hC := hC.same (fun q => ho9 q (fun h => h))
          refine lv_bipush (v := 6) hx hb dX4_weighRequest_81 (by decide) ?_
          refine lv_aload hx hb dX4_weighRequest_83 (lv_at hl 2 rfl) ?_
          refine qr_get (ci := 2) (C := RX2) (T := TX2) (N := 4) hx hb hts hin2 hown hK (hC.vot i hi) rfl 0 (by decide) (hts (.fieldLink RX4 130 "QuorumLock$Voter" "row" "LQuorumLock$Row;") (by decide +kernel)) rfl dX4_weighRequest_85 ?_
          refine lv_iconst (v := 1) hx hb dX4_weighRequest_88 (by decide) ?_
          refine qc_i (va_runV (As := [.int 1]) (rest := [.int 6, .int (nI x9.1), .int (nI i), .ref (ad 0 0)]) ⟨hx, hb, hml, hown, hts⟩ (c_X1_timeAt l dd ga (2 * k - 1) (ad 12 i) (ad 13 i) (ad 14 i) ((s_rw σ i (q_ins (σ.2.2.1 i) a t)).2.2.1 i) (by omega) (by rw [er1, q_ins_len]; omega) 1) (cwV 1 hts gX4_weighRequest_X1_timeAt rfl rfl rfl (by decide +kernel) ⟨Nat.le_of_ble_eq_true rfl, Nat.le_of_ble_eq_true rfl⟩) (qpreV hK (hC.row i hi) ((hC.row i hi).obj) rfl) rfl rfl hl.1 rfl (lv_room (Nat.le_of_ble_eq_true rfl)) dX4_weighRequest_89 ⟨Nat.zero_le _, Nat.zero_le _⟩) hS (fun q h => h.elim) (fun v89 H locs hp9 hz9 ho9 hS => ?_)
          rw [er1, q_ins0 hp0, hr9, (q_at1 (by rw [hr9] at hrl; simp at hrl; omega)).2] at hp9
          subst hp9
          have hC := hC.same (fun q => ho9 q (fun h => h))
          refine qc_v (va_runV (As := [.int (nI i), .int (nI x9.1), .int 6, .int x9.2]) (rest := []) ⟨hx, hb, hml, hown, hts⟩ (c_X4_send l dd ga n k ad (s_rw σ i (q_ins (σ.2.2.1 i) a t)) hsq hL i x9.1 hi hx9 6 x9.2 (by have h9 := hcw i x9.1 hi hx9; show (σ.2.2.2.1 i x9.1).length < 8; omega)) (cwV 4 hts gX4_weighRequest_X4_send rfl rfl rfl (by decide +kernel) ⟨Nat.le_of_ble_eq_true rfl, Nat.le_of_ble_eq_true rfl⟩) (qpreV hK hC hC.self rfl) rfl rfl hl.1 rfl (lv_room (Nat.le_of_ble_eq_true rfl)) dX4_weighRequest_92 ⟨Nat.zero_le _, Nat.zero_le _⟩) hS (fun q h => h) (fun H locs hp9 hz9 ho9 hS => ?_)
          have hC := hp9
          refine lv_aload_n hx hb dX4_weighRequest_95 rfl (lv_at hl 3 rfl) ?_
          refine lv_iload_n hx hb dX4_weighRequest_96 rfl (lv_at hl 4 rfl) ?_
          refine qc_v (va_runV (As := [.int (nI i)]) (rest := []) ⟨hx, hb, hml, hown, hts⟩ (c_X4_inquireOnce l dd ga n k ad (s_send (s_rw σ i (q_ins (σ.2.2.1 i) a t)) i x9.1 6 x9.2) hsq hL i b u hi hb9 hln (by have h9 := hcw i b hi hb9; have h8 := q_send_len (s_rw σ i (q_ins (σ.2.2.1 i) a t)) i x9.1 6 x9.2 i b; have h7 : ((s_rw σ i (q_ins (σ.2.2.1 i) a t)).2.2.2.1 i b).length = (σ.2.2.2.1 i b).length := rfl; omega)) (cwV 1 hts gX4_weighRequest_X4_inquireOnce rfl rfl rfl (by decide +kernel) ⟨Nat.le_of_ble_eq_true rfl, Nat.le_of_ble_eq_true rfl⟩) (qpreV hK hC hC.self rfl) rfl rfl hl.1 rfl (lv_room (Nat.le_of_ble_eq_true rfl)) dX4_weighRequest_97 ⟨Nat.zero_le _, Nat.zero_le _⟩) hS (fun q h => h) (fun H locs hp9 hz9 ho9 hS => ?_)
          have hfin : qC dd ga n k ad (q_asked σ i a t) H := by rw [q_asked_yes1 hln hp0 hbf hr9 hpr]; exact hp9
          refine lv_goto (tgt := 112) hx hb dX4_weighRequest_100 (by decide) ?_
          exact q_vret hx hb hr hlocks hS hfin dX4_weighRequest_112
theorem q_home_no {σ : qSt} {i a : Nat} {t : Int32} {g : Bool} (h : ¬ σ.2.1 i = some (a, t)) : q_home σ i a t g = σ := by rw [q_home, if_neg h]
set_option maxHeartbeats 4000000 in
set_option maxRecDepth 100000 in
/-- X4_takeVoteBack -/
theorem c_X4_takeVoteBack0 (l : Launch) (dd : va_G) (ga : Nat → ClassId) (n k : Nat) (ad : Nat → Nat → Nat) (σ : qSt) (hsq : qSq n k) (hL : qL n ad) (i a : Nat) (hi : i < n) (ha : a < n) (t : Int32) (hcap : qCap n k σ) : Met l yX4_takeVoteBack wsX4_takeVoteBack ({ frames := 4, cells := 0, slots := 0, locals := 96 }) (qPc dd ga [.ref (ad 0 0), .int (nI i), .int (nI a), .int t, .int 0] (fun H => qC dd ga n k ad σ H)) (qQv (fun H => qC dd ga n k ad (q_home σ i a t false) H) (qA n ad)) 0 0 (qA n ad) := by
  refine Met.ofW (cc := cX4_takeVoteBack) (maxL := 8) (ret := none) (by decide) rfl ?_
  intro p e s m args below meth c s₁ B hml hv
  obtain ⟨rfl, hC, hK⟩ := hv
  have hx := B.exec
  have hb := B.bytes
  have hr := B.returns
  have hts := atoms_spec (ws := wsX4_takeVoteBack) B.pre
  have hown : s.vm.findClass RX4 = some m.cls := findClass_of_methodNamed B.named
  have hlocks := B.notSynchronized
  have hS : qS (qA n ad) s.heap s.heap [] := qS.rf
  have hl := lv_entry ([.ref (ad 0 0), .int (nI i), .int (nI a), .int t, .int 0]) (n := 8) (Nat.le_of_ble_eq_true rfl)
  rw [lg_entry_eq]
  generalize (lg_sl ([.ref (ad 0 0), .int (nI i), .int (nI a), .int t, .int 0]) ++ List.replicate (8 - (lg_sl ([.ref (ad 0 0), .int (nI i), .int (nI a), .int t, .int 0])).length) Slot.unset).toArray = ls at hl ⊢
  have hin1 : ∀ w ∈ wsX10, w ∈ wsX4_takeVoteBack := by decide +kernel
  have hin2 : ∀ w ∈ wsX20, w ∈ wsX4_takeVoteBack := by decide +kernel
  have hin4 : ∀ w ∈ wsX40, w ∈ wsX4_takeVoteBack := by decide +kernel
  have hn1 := hsq.n.1
  have hn16 := hsq.n.2
  obtain ⟨hcw, hcr, hcx, hcl, hci⟩ := id hcap
  have hk4 := hsq.2.2
  have hrl := hcr i hi
  have hr31 : ∀ x ∈ σ.2.2.1 i, x.1 < 2 ^ 31 := fun x hx => by have := hcx i hi x hx; omega
  refine lv_aload_n hx hb dX4_takeVoteBack_0 rfl (lv_at hl 0 rfl) ?_
  refine qr_get (ci := 4) (C := RX4) (T := TX4) (N := 7) hx hb hts hin4 hown hK hC.self rfl 4 (by decide) (hts (.fieldLink RX4 37 "QuorumLock" "voters" "[LQuorumLock$Voter;") (by decide +kernel)) rfl dX4_takeVoteBack_1 ?_
  refine lv_iload_n hx hb dX4_takeVoteBack_4 rfl (lv_at hl 1 rfl) ?_
  refine qr_aald (v := ad 11 i) hx hb hK 3 hC.arV rfl i (by omega) (by omega) rfl rfl dX4_takeVoteBack_5 ?_
  refine lv_astore (lv' := [(5, .ref (ad 11 i)), (0, .ref (ad 0 0)), (1, .int (nI i)), (2, .int (nI a)), (3, .int t), (4, .int 0)]) hx hb dX4_takeVoteBack_6 hl (by decide) rfl (fun ls hl => ?_)
  refine lv_aload hx hb dX4_takeVoteBack_8 (lv_at hl 0 rfl) ?_
  refine qr_get (ci := 2) (C := RX2) (T := TX2) (N := 4) hx hb hts hin2 hown hK (hC.vot i hi) rfl 1 (by decide) (hts (.fieldLink RX4 103 "QuorumLock$Voter" "lentTo" "I") (by decide +kernel)) rfl dX4_takeVoteBack_10 ?_
  refine lv_iload_n hx hb dX4_takeVoteBack_13 rfl (lv_at hl 3 rfl) ?_
  refine lv_icmp_ne (tgt := 26) hx hb dX4_takeVoteBack_14 (by decide) (fun c_14 => ?_) (fun c_14 => ?_)
  · have hfin : qC dd ga n k ad (q_home σ i a t false) s.heap := by rw [q_home_no (fun h => c_14 (by rw [h]; rfl))]; exact hC
    exact q_vret hx hb hr hlocks hS hfin dX4_takeVoteBack_26
  · refine lv_aload hx hb dX4_takeVoteBack_17 (lv_at hl 0 rfl) ?_
    refine qr_get (ci := 2) (C := RX2) (T := TX2) (N := 4) hx hb hts hin2 hown hK (hC.vot i hi) rfl 2 (by decide) (hts (.fieldLink RX4 201 "QuorumLock$Voter" "lentTime" "I") (by decide +kernel)) rfl dX4_takeVoteBack_19 ?_
    refine lv_iload_n hx hb dX4_takeVoteBack_22 rfl (lv_at hl 4 rfl) ?_
    refine lv_icmp_eq (tgt := 27) hx hb dX4_takeVoteBack_23 (by decide) (fun c_23 => ?_) (fun c_23 => ?_)
    · have hln : σ.2.1 i = some (a, t) := q_ln_eq (by omega) (fun x hx => by have := hcl i hi x hx; omega) c_14 c_23
      refine lv_iload hx hb dX4_takeVoteBack_27 (lv_at hl 5 rfl) ?_
      refine lv_if_eq (tgt := 43) hx hb dX4_takeVoteBack_29 (by decide) (fun c_29 => ?_) (fun c_29 => absurd (by decide) c_29)
      refine lv_aload hx hb dX4_takeVoteBack_43 (lv_at hl 0 rfl) ?_
      refine qc_v (va_runV (As := []) (rest := []) ⟨hx, hb, hml, hown, hts⟩ (c_X2_takeHome l dd ga (ad 11 i) (ad 12 i) (q_on (σ.2.1 i)) (q_ot (σ.2.1 i)) (σ.1 6 i)) (cwV 0 hts gX4_takeVoteBack_X2_takeHome rfl rfl rfl (by decide +kernel) ⟨Nat.le_of_ble_eq_true rfl, Nat.le_of_ble_eq_true rfl⟩) (qpreV hK (hC.vot i hi) (hC.vot i hi) rfl) rfl rfl hl.1 rfl (lv_room (Nat.le_of_ble_eq_true rfl)) dX4_takeVoteBack_45 ⟨Nat.zero_le _, Nat.zero_le _⟩) hS (fun q h => qA.at (by decide) (by decide) hi h) (fun H locs hp9 hz9 ho9 hS => ?_)
      have hC := hC.putVot (σ' := s_tb (s_ln (σ) i none) 6 i 0) hL hi ho9 (by simpa [qVot, s_tb, s_ln, q2, va_up, q_on, q_ot] using hp9) (fun f j h => q2_n h) (fun j h => va_up_ne _ _ h) rfl
      have ehm : q_home σ i a t false = q_next (s_tb (s_ln (σ) i none) 6 i 0) i := by rw [q_home, if_pos hln]; rfl
      have hrl2 : ((s_tb (s_ln (σ) i none) 6 i 0).2.2.1 i).length ≤ 2 * k - 1 := by show (σ.2.2.1 i).length ≤ _; omega
      have hrn2 : ∀ x ∈ (s_tb (s_ln (σ) i none) 6 i 0).2.2.1 i, x.1 < n := hcx i hi
      refine lv_aload hx hb dX4_takeVoteBack_48 (lv_at hl 0 rfl) ?_
      refine qr_get (ci := 2) (C := RX2) (T := TX2) (N := 4) hx hb hts hin2 hown hK (hC.vot i hi) rfl 0 (by decide) (hts (.fieldLink RX4 130 "QuorumLock$Voter" "row" "LQuorumLock$Row;") (by decide +kernel)) rfl dX4_takeVoteBack_50 ?_
      refine qr_get (ci := 1) (C := RX1) (T := TX1) (N := 3) hx hb hts hin1 hown hK ((hC.row i hi).obj) rfl 2 (by decide) (hts (.fieldLink RX4 134 "QuorumLock$Row" "length" "I") (by decide +kernel)) rfl dX4_takeVoteBack_53 ?_
      refine lv_if_le (tgt := 98) hx hb dX4_takeVoteBack_56 (by decide) (fun c_56 => ?_) (fun c_56 => ?_)
      · have hr9 : (s_tb (s_ln (σ) i none) 6 i 0).2.2.1 i = [] := List.length_eq_zero_iff.mp (Classical.byContradiction fun h => absurd c_56 (nI_nle (by omega) (by omega)))
        have hfin : qC dd ga n k ad (q_home σ i a t false) H := by rw [ehm, q_next, hr9]; exact hC
        exact q_vret hx hb hr hlocks hS hfin dX4_takeVoteBack_98
      · obtain ⟨x9, r9, hr9⟩ : ∃ x9 r9, (s_tb (s_ln (σ) i none) 6 i 0).2.2.1 i = x9 :: r9 := by
          cases h : (s_tb (s_ln (σ) i none) 6 i 0).2.2.1 i with
          | nil => rw [h] at c_56; exact absurd (by decide) c_56
          | cons x r => exact ⟨x, r, rfl⟩
        have hx9 : x9.1 < n := hrn2 x9 (by rw [hr9]; exact List.mem_cons_self)
        refine lv_aload hx hb dX4_takeVoteBack_59 (lv_at hl 0 rfl) ?_
        refine qr_get (ci := 2) (C := RX2) (T := TX2) (N := 4) hx hb hts hin2 hown hK (hC.vot i hi) rfl 0 (by decide) (hts (.fieldLink RX4 130 "QuorumLock$Voter" "row" "LQuorumLock$Row;") (by decide +kernel)) rfl dX4_takeVoteBack_61 ?_
        refine lv_iconst (v := 0) hx hb dX4_takeVoteBack_64 (by decide) ?_
        refine qc_i (va_runV (As := [.int 0]) (rest := []) ⟨hx, hb, hml, hown, hts⟩ (c_X1_nodeAt l dd ga (2 * k - 1) (ad 12 i) (ad 13 i) (ad 14 i) ((s_tb (s_ln (σ) i none) 6 i 0).2.2.1 i) (by omega) hrl2 0) (cwV 1 hts gX4_takeVoteBack_X1_nodeAt rfl rfl rfl (by decide +kernel) ⟨Nat.le_of_ble_eq_true rfl, Nat.le_of_ble_eq_true rfl⟩) (qpreV hK (hC.row i hi) ((hC.row i hi).obj) rfl) rfl rfl hl.1 rfl (lv_room (Nat.le_of_ble_eq_true rfl)) dX4_takeVoteBack_65 ⟨Nat.zero_le _, Nat.zero_le _⟩) hS (fun q h => h.elim) (fun v65 H locs hp9 hz9 ho9 hS => ?_)
        rw [hr9, (q_at0 (by rw [hr9] at hrl2; simp at hrl2; omega)).1] at hp9
        subst hp9
        have hC := hC.same (fun q => ho9 q (fun h => h))
        refine lv_istore (lv' := [(6, .int (nI x9.1)), (5, .ref (ad 11 i)), (0, .ref (ad 0 0)), (1, .int (nI i)), (2, .int (nI a)), (3, .int t), (4, .int 0)]) hx hb dX4_takeVoteBack_68 hl (by decide) rfl (fun ls hl => ?_)
        refine lv_aload hx hb dX4_takeVoteBack_70 (lv_at hl 1 rfl) ?_
        refine qr_get (ci := 2) (C := RX2) (T := TX2) (N := 4) hx hb hts hin2 hown hK (hC.vot i hi) rfl 0 (by decide) (hts (.fieldLink RX4 130 "QuorumLock$Voter" "row" "LQuorumLock$Row;") (by decide +kernel)) rfl dX4_takeVoteBack_72 ?_
        refine lv_iconst (v := 0) hx hb dX4_takeVoteBack_75 (by decide) ?_
        refine qc_i (va_runV (As := [.int 0]) (rest := []) ⟨hx, hb, hml, hown, hts⟩ (c_X1_timeAt l dd ga (2 * k - 1) (ad 12 i) (ad 13 i) (ad 14 i) ((s_tb (s_ln (σ) i none) 6 i 0).2.2.1 i) (by omega) hrl2 0) (cwV 1 hts gX4_takeVoteBack_X1_timeAt rfl rfl rfl (by decide +kernel) ⟨Nat.le_of_ble_eq_true rfl, Nat.le_of_ble_eq_true rfl⟩) (qpreV hK (hC.row i hi) ((hC.row i hi).obj) rfl) rfl rfl hl.1 rfl (lv_room (Nat.le_of_ble_eq_true rfl)) dX4_takeVoteBack_76 ⟨Nat.zero_le _, Nat.zero_le _⟩) hS (fun q h => h.elim) (fun v76 H locs hp9 hz9 ho9 hS => ?_)
        rw [hr9, (q_at0 (by rw [hr9] at hrl2; simp at hrl2; omega)).2] at hp9
        subst hp9
        have hC := hC.same (fun q => ho9 q (fun h => h))
        refine lv_istore (lv' := [(7, .int x9.2), (6, .int (nI x9.1)), (5, .ref (ad 11 i)), (0, .ref (ad 0 0)), (1, .int (nI i)), (2, .int (nI a)), (3, .int t), (4, .int 0)]) hx hb dX4_takeVoteBack_79 hl (by decide) rfl (fun ls hl => ?_)
        refine lv_aload hx hb dX4_takeVoteBack_81 (lv_at hl 2 rfl) ?_
        refine qr_get (ci := 2) (C := RX2) (T := TX2) (N := 4) hx hb hts hin2 hown hK (hC.vot i hi) rfl 0 (by decide) (hts (.fieldLink RX4 130 "QuorumLock$Voter" "row" "LQuorumLock$Row;") (by decide +kernel)) rfl dX4_takeVoteBack_83 ?_
        refine qc_v (va_runV (As := []) (rest := []) ⟨hx, hb, hml, hown, hts⟩ (c_X1_removeFirst l dd ga (2 * k - 1) (ad 12 i) (ad 13 i) (ad 14 i) x9 r9 (by omega) (by rw [hr9] at hrl2; simp at hrl2; omega) (hL.ne (qd.i (by decide) (by decide) hi) (qd.i (by decide) (by decide) hi) (by omega)) (hL.ne (qd.i (by decide) (by decide) hi) (qd.i (by decide) (by decide) hi) (by omega)) (hL.ne (qd.i (by decide) (by decide) hi) (qd.i (by decide) (by decide) hi) (by omega))) (cwV 0 hts gX4_takeVoteBack_X1_removeFirst rfl rfl rfl (by decide +kernel) ⟨Nat.le_of_ble_eq_true rfl, Nat.le_of_ble_eq_true rfl⟩) (qpreV hK (by have h9 := hC.row i hi; rw [hr9] at h9; exact h9) ((hC.row i hi).obj) rfl) rfl rfl hl.1 rfl (lv_room (Nat.le_of_ble_eq_true rfl)) dX4_takeVoteBack_86 ⟨Nat.zero_le _, Nat.zero_le _⟩) hS (fun q h => qA.row hi h) (fun H locs hp9 hz9 ho9 hS => ?_)
        have hC := hC.putRow (σ' := s_rw (s_tb (s_ln (σ) i none) 6 i 0) i r9) hL hi ho9 (by simpa [s_rw, va_up] using hp9) rfl rfl (fun j h => va_up_ne _ _ h) rfl
        refine lv_aload_n hx hb dX4_takeVoteBack_89 rfl (lv_at hl 3 rfl) ?_
        refine lv_iload_n hx hb dX4_takeVoteBack_90 rfl (lv_at hl 4 rfl) ?_
        refine lv_iload hx hb dX4_takeVoteBack_91 (lv_at hl 1 rfl) ?_
        refine lv_iload hx hb dX4_takeVoteBack_93 (lv_at hl 0 rfl) ?_
        refine qc_v (va_runV (As := [.int (nI i), .int (nI x9.1), .int x9.2]) (rest := []) ⟨hx, hb, hml, hown, hts⟩ (c_X4_lend l dd ga n k ad (s_rw (s_tb (s_ln (σ) i none) 6 i 0) i r9) hsq hL i x9.1 hi hx9 x9.2 (by have h9 := hcw i x9.1 hi hx9; show (σ.2.2.2.1 i x9.1).length < 8; omega)) (cwV 3 hts gX4_takeVoteBack_X4_lend rfl rfl rfl (by decide +kernel) ⟨Nat.le_of_ble_eq_true rfl, Nat.le_of_ble_eq_true rfl⟩) (qpreV hK hC hC.self rfl) rfl rfl hl.1 rfl (lv_room (Nat.le_of_ble_eq_true rfl)) dX4_takeVoteBack_95 ⟨Nat.zero_le _, Nat.zero_le _⟩) hS (fun q h => h) (fun H locs hp9 hz9 ho9 hS => ?_)
        have hfin : qC dd ga n k ad (q_home σ i a t false) H := by rw [ehm, q_next, hr9]; exact hp9
        exact q_vret hx hb hr hlocks hS hfin dX4_takeVoteBack_98
    · have hfin : qC dd ga n k ad (q_home σ i a t false) s.heap := by rw [q_home_no (fun h => c_23 (by rw [h]; rfl))]; exact hC
      exact q_vret hx hb hr hlocks hS hfin dX4_takeVoteBack_26
set_option maxHeartbeats 4000000 in
set_option maxRecDepth 100000 in
/-- X4_takeVoteBack -/
theorem c_X4_takeVoteBack1 (l : Launch) (dd : va_G) (ga : Nat → ClassId) (n k : Nat) (ad : Nat → Nat → Nat) (σ : qSt) (hsq : qSq n k) (hL : qL n ad) (i a : Nat) (hi : i < n) (ha : a < n) (t : Int32) (hcap : qCap n k σ) : Met l yX4_takeVoteBack wsX4_takeVoteBack ({ frames := 4, cells := 0, slots := 0, locals := 96 }) (qPc dd ga [.ref (ad 0 0), .int (nI i), .int (nI a), .int t, .int 1] (fun H => qC dd ga n k ad σ H)) (qQv (fun H => qC dd ga n k ad (q_home σ i a t true) H) (qA n ad)) 0 0 (qA n ad) := by
  refine Met.ofW (cc := cX4_takeVoteBack) (maxL := 8) (ret := none) (by decide) rfl ?_
  intro p e s m args below meth c s₁ B hml hv
  obtain ⟨rfl, hC, hK⟩ := hv
  have hx := B.exec
  have hb := B.bytes
  have hr := B.returns
  have hts := atoms_spec (ws := wsX4_takeVoteBack) B.pre
  have hown : s.vm.findClass RX4 = some m.cls := findClass_of_methodNamed B.named
  have hlocks := B.notSynchronized
  have hS : qS (qA n ad) s.heap s.heap [] := qS.rf
  have hl := lv_entry ([.ref (ad 0 0), .int (nI i), .int (nI a), .int t, .int 1]) (n := 8) (Nat.le_of_ble_eq_true rfl)
  rw [lg_entry_eq]
  generalize (lg_sl ([.ref (ad 0 0), .int (nI i), .int (nI a), .int t, .int 1]) ++ List.replicate (8 - (lg_sl ([.ref (ad 0 0), .int (nI i), .int (nI a), .int t, .int 1])).length) Slot.unset).toArray = ls at hl ⊢
  have hin1 : ∀ w ∈ wsX10, w ∈ wsX4_takeVoteBack := by decide +kernel
  have hin2 : ∀ w ∈ wsX20, w ∈ wsX4_takeVoteBack := by decide +kernel
  have hin4 : ∀ w ∈ wsX40, w ∈ wsX4_takeVoteBack := by decide +kernel
  have hn1 := hsq.n.1
  have hn16 := hsq.n.2
  obtain ⟨hcw, hcr, hcx, hcl, hci⟩ := id hcap
  have hk4 := hsq.2.2
  have hrl := hcr i hi
  have hr31 : ∀ x ∈ σ.2.2.1 i, x.1 < 2 ^ 31 := fun x hx => by have := hcx i hi x hx; omega
  refine lv_aload_n hx hb dX4_takeVoteBack_0 rfl (lv_at hl 0 rfl) ?_
  refine qr_get (ci := 4) (C := RX4) (T := TX4) (N := 7) hx hb hts hin4 hown hK hC.self rfl 4 (by decide) (hts (.fieldLink RX4 37 "QuorumLock" "voters" "[LQuorumLock$Voter;") (by decide +kernel)) rfl dX4_takeVoteBack_1 ?_
  refine lv_iload_n hx hb dX4_takeVoteBack_4 rfl (lv_at hl 1 rfl) ?_
  refine qr_aald (v := ad 11 i) hx hb hK 3 hC.arV rfl i (by omega) (by omega) rfl rfl dX4_takeVoteBack_5 ?_
  refine lv_astore (lv' := [(5, .ref (ad 11 i)), (0, .ref (ad 0 0)), (1, .int (nI i)), (2, .int (nI a)), (3, .int t), (4, .int 1)]) hx hb dX4_takeVoteBack_6 hl (by decide) rfl (fun ls hl => ?_)
  refine lv_aload hx hb dX4_takeVoteBack_8 (lv_at hl 0 rfl) ?_
  refine qr_get (ci := 2) (C := RX2) (T := TX2) (N := 4) hx hb hts hin2 hown hK (hC.vot i hi) rfl 1 (by decide) (hts (.fieldLink RX4 103 "QuorumLock$Voter" "lentTo" "I") (by decide +kernel)) rfl dX4_takeVoteBack_10 ?_
  refine lv_iload_n hx hb dX4_takeVoteBack_13 rfl (lv_at hl 3 rfl) ?_
  refine lv_icmp_ne (tgt := 26) hx hb dX4_takeVoteBack_14 (by decide) (fun c_14 => ?_) (fun c_14 => ?_)
  · have hfin : qC dd ga n k ad (q_home σ i a t true) s.heap := by rw [q_home_no (fun h => c_14 (by rw [h]; rfl))]; exact hC
    exact q_vret hx hb hr hlocks hS hfin dX4_takeVoteBack_26
  · refine lv_aload hx hb dX4_takeVoteBack_17 (lv_at hl 0 rfl) ?_
    refine qr_get (ci := 2) (C := RX2) (T := TX2) (N := 4) hx hb hts hin2 hown hK (hC.vot i hi) rfl 2 (by decide) (hts (.fieldLink RX4 201 "QuorumLock$Voter" "lentTime" "I") (by decide +kernel)) rfl dX4_takeVoteBack_19 ?_
    refine lv_iload_n hx hb dX4_takeVoteBack_22 rfl (lv_at hl 4 rfl) ?_
    refine lv_icmp_eq (tgt := 27) hx hb dX4_takeVoteBack_23 (by decide) (fun c_23 => ?_) (fun c_23 => ?_)
    · have hln : σ.2.1 i = some (a, t) := q_ln_eq (by omega) (fun x hx => by have := hcl i hi x hx; omega) c_14 c_23
      refine lv_iload hx hb dX4_takeVoteBack_27 (lv_at hl 5 rfl) ?_
      refine lv_if_eq (tgt := 43) hx hb dX4_takeVoteBack_29 (by decide) (fun c_29 => absurd c_29 (by decide)) (fun c_29 => ?_)
      refine lv_aload hx hb dX4_takeVoteBack_32 (lv_at hl 0 rfl) ?_
      refine qr_get (ci := 2) (C := RX2) (T := TX2) (N := 4) hx hb hts hin2 hown hK (hC.vot i hi) rfl 0 (by decide) (hts (.fieldLink RX4 130 "QuorumLock$Voter" "row" "LQuorumLock$Row;") (by decide +kernel)) rfl dX4_takeVoteBack_34 ?_
      refine lv_iload_n hx hb dX4_takeVoteBack_37 rfl (lv_at hl 3 rfl) ?_
      refine lv_iload_n hx hb dX4_takeVoteBack_38 rfl (lv_at hl 4 rfl) ?_
      refine qc_i (va_runV (As := [.int (nI a), .int t]) (rest := []) ⟨hx, hb, hml, hown, hts⟩ (c_X1_insert l dd ga (2 * k - 1) (ad 12 i) (ad 13 i) (ad 14 i) (σ.2.2.1 i) (by omega) (by omega) (hL.ne (qd.i (by decide) (by decide) hi) (qd.i (by decide) (by decide) hi) (by omega)) (hL.ne (qd.i (by decide) (by decide) hi) (qd.i (by decide) (by decide) hi) (by omega)) (hL.ne (qd.i (by decide) (by decide) hi) (qd.i (by decide) (by decide) hi) (by omega)) a t (by omega) hr31) (cwV 2 hts gX4_takeVoteBack_X1_insert rfl rfl rfl (by decide +kernel) ⟨Nat.le_of_ble_eq_true rfl, Nat.le_of_ble_eq_true rfl⟩) (qpreV hK (hC.row i hi) ((hC.row i hi).obj) rfl) rfl rfl hl.1 rfl (lv_room (Nat.le_of_ble_eq_true rfl)) dX4_takeVoteBack_39 ⟨Nat.zero_le _, Nat.zero_le _⟩) hS (fun q h => qA.row hi h) (fun v39 H locs hp9 hz9 ho9 hS => ?_)
      have hC := hC.putRow (σ' := s_rw σ i (q_ins (σ.2.2.1 i) a t)) hL hi ho9 (by simpa [s_rw, va_up] using hp9.2) rfl rfl (fun j h => va_up_ne _ _ h) rfl
      refine lv_pop hx hb dX4_takeVoteBack_42 rfl ?_
      refine lv_aload hx hb dX4_takeVoteBack_43 (lv_at hl 0 rfl) ?_
      refine qc_v (va_runV (As := []) (rest := []) ⟨hx, hb, hml, hown, hts⟩ (c_X2_takeHome l dd ga (ad 11 i) (ad 12 i) (q_on (σ.2.1 i)) (q_ot (σ.2.1 i)) (σ.1 6 i)) (cwV 0 hts gX4_takeVoteBack_X2_takeHome rfl rfl rfl (by decide +kernel) ⟨Nat.le_of_ble_eq_true rfl, Nat.le_of_ble_eq_true rfl⟩) (qpreV hK (hC.vot i hi) (hC.vot i hi) rfl) rfl rfl hl.1 rfl (lv_room (Nat.le_of_ble_eq_true rfl)) dX4_takeVoteBack_45 ⟨Nat.zero_le _, Nat.zero_le _⟩) hS (fun q h => qA.at (by decide) (by decide) hi h) (fun H locs hp9 hz9 ho9 hS => ?_)
      have hC := hC.putVot (σ' := s_tb (s_ln (s_rw σ i (q_ins (σ.2.2.1 i) a t)) i none) 6 i 0) hL hi ho9 (by simpa [qVot, s_tb, s_ln, q2, va_up, q_on, q_ot] using hp9) (fun f j h => q2_n h) (fun j h => va_up_ne _ _ h) rfl
      have ehm : q_home σ i a t true = q_next (s_tb (s_ln (s_rw σ i (q_ins (σ.2.2.1 i) a t)) i none) 6 i 0) i := by rw [q_home, if_pos hln]; rfl
      have hrl2 : ((s_tb (s_ln (s_rw σ i (q_ins (σ.2.2.1 i) a t)) i none) 6 i 0).2.2.1 i).length ≤ 2 * k - 1 := by show (va_up σ.2.2.1 i (q_ins (σ.2.2.1 i) a t) i).length ≤ _; rw [va_up_self, q_ins_len]; omega
      have hrn2 : ∀ x ∈ (s_tb (s_ln (s_rw σ i (q_ins (σ.2.2.1 i) a t)) i none) 6 i 0).2.2.1 i, x.1 < n := fun x hx => by have hx : x ∈ va_up σ.2.2.1 i (q_ins (σ.2.2.1 i) a t) i := hx; rw [va_up_self] at hx; rcases q_ins_mem hx with h | h; (rw [h]; exact ha); exact hcx i hi x h
      refine lv_aload hx hb dX4_takeVoteBack_48 (lv_at hl 0 rfl) ?_
      refine qr_get (ci := 2) (C := RX2) (T := TX2) (N := 4) hx hb hts hin2 hown hK (hC.vot i hi) rfl 0 (by decide) (hts (.fieldLink RX4 130 "QuorumLock$Voter" "row" "LQuorumLock$Row;") (by decide +kernel)) rfl dX4_takeVoteBack_50 ?_
      refine qr_get (ci := 1) (C := RX1) (T := TX1) (N := 3) hx hb hts hin1 hown hK ((hC.row i hi).obj) rfl 2 (by decide) (hts (.fieldLink RX4 134 "QuorumLock$Row" "length" "I") (by decide +kernel)) rfl dX4_takeVoteBack_53 ?_
      refine lv_if_le (tgt := 98) hx hb dX4_takeVoteBack_56 (by decide) (fun c_56 => ?_) (fun c_56 => ?_)
      · have hr9 : (s_tb (s_ln (s_rw σ i (q_ins (σ.2.2.1 i) a t)) i none) 6 i 0).2.2.1 i = [] := List.length_eq_zero_iff.mp (Classical.byContradiction fun h => absurd c_56 (nI_nle (by omega) (by omega)))
        have hfin : qC dd ga n k ad (q_home σ i a t true) H := by rw [ehm, q_next, hr9]; exact hC
        exact q_vret hx hb hr hlocks hS hfin dX4_takeVoteBack_98
      · obtain ⟨x9, r9, hr9⟩ : ∃ x9 r9, (s_tb (s_ln (s_rw σ i (q_ins (σ.2.2.1 i) a t)) i none) 6 i 0).2.2.1 i = x9 :: r9 := by
          cases h : (s_tb (s_ln (s_rw σ i (q_ins (σ.2.2.1 i) a t)) i none) 6 i 0).2.2.1 i with
          | nil => rw [h] at c_56; exact absurd (by decide) c_56
          | cons x r => exact ⟨x, r, rfl⟩
        have hx9 : x9.1 < n := hrn2 x9 (by rw [hr9]; exact List.mem_cons_self)
        refine lv_aload hx hb dX4_takeVoteBack_59 (lv_at hl 0 rfl) ?_
        refine qr_get (ci := 2) (C := RX2) (T := TX2) (N := 4) hx hb hts hin2 hown hK (hC.vot i hi) rfl 0 (by decide) (hts (.fieldLink RX4 130 "QuorumLock$Voter" "row" "LQuorumLock$Row;") (by decide +kernel)) rfl dX4_takeVoteBack_61 ?_
        refine lv_iconst (v := 0) hx hb dX4_takeVoteBack_64 (by decide) ?_
        refine qc_i (va_runV (As := [.int 0]) (rest := []) ⟨hx, hb, hml, hown, hts⟩ (c_X1_nodeAt l dd ga (2 * k - 1) (ad 12 i) (ad 13 i) (ad 14 i) ((s_tb (s_ln (s_rw σ i (q_ins (σ.2.2.1 i) a t)) i none) 6 i 0).2.2.1 i) (by omega) hrl2 0) (cwV 1 hts gX4_takeVoteBack_X1_nodeAt rfl rfl rfl (by decide +kernel) ⟨Nat.le_of_ble_eq_true rfl, Nat.le_of_ble_eq_true rfl⟩) (qpreV hK (hC.row i hi) ((hC.row i hi).obj) rfl) rfl rfl hl.1 rfl (lv_room (Nat.le_of_ble_eq_true rfl)) dX4_takeVoteBack_65 ⟨Nat.zero_le _, Nat.zero_le _⟩) hS (fun q h => h.elim) (fun v65 H locs hp9 hz9 ho9 hS => ?_)
        rw [hr9, (q_at0 (by rw [hr9] at hrl2; simp at hrl2; omega)).1] at hp9
        subst hp9
        have hC := hC.same (fun q => ho9 q (fun h => h))
        refine lv_istore (lv' := [(6, .int (nI x9.1)), (5, .ref (ad 11 i)), (0, .ref (ad 0 0)), (1, .int (nI i)), (2, .int (nI a)), (3, .int t), (4, .int 1)]) hx hb dX4_takeVoteBack_68 hl (by decide) rfl (fun ls hl => ?_)
        refine lv_aload hx hb dX4_takeVoteBack_70 (lv_at hl 1 rfl) ?_
        refine qr_get (ci := 2) (C := RX2) (T := TX2) (N := 4) hx hb hts hin2 hown hK (hC.vot i hi) rfl 0 (by decide) (hts (.fieldLink RX4 130 "QuorumLock$Voter" "row" "LQuorumLock$Row;") (by decide +kernel)) rfl dX4_takeVoteBack_72 ?_
        refine lv_iconst (v := 0) hx hb dX4_takeVoteBack_75 (by decide) ?_
        refine qc_i (va_runV (As := [.int 0]) (rest := []) ⟨hx, hb, hml, hown, hts⟩ (c_X1_timeAt l dd ga (2 * k - 1) (ad 12 i) (ad 13 i) (ad 14 i) ((s_tb (s_ln (s_rw σ i (q_ins (σ.2.2.1 i) a t)) i none) 6 i 0).2.2.1 i) (by omega) hrl2 0) (cwV 1 hts gX4_takeVoteBack_X1_timeAt rfl rfl rfl (by decide +kernel) ⟨Nat.le_of_ble_eq_true rfl, Nat.le_of_ble_eq_true rfl⟩) (qpreV hK (hC.row i hi) ((hC.row i hi).obj) rfl) rfl rfl hl.1 rfl (lv_room (Nat.le_of_ble_eq_true rfl)) dX4_takeVoteBack_76 ⟨Nat.zero_le _, Nat.zero_le _⟩) hS (fun q h => h.elim) (fun v76 H locs hp9 hz9 ho9 hS => ?_)
        rw [hr9, (q_at0 (by rw [hr9] at hrl2; simp at hrl2; omega)).2] at hp9
        subst hp9
        have hC := hC.same (fun q => ho9 q (fun h => h))
        refine lv_istore (lv' := [(7, .int x9.2), (6, .int (nI x9.1)), (5, .ref (ad 11 i)), (0, .ref (ad 0 0)), (1, .int (nI i)), (2, .int (nI a)), (3, .int t), (4, .int 1)]) hx hb dX4_takeVoteBack_79 hl (by decide) rfl (fun ls hl => ?_)
        refine lv_aload hx hb dX4_takeVoteBack_81 (lv_at hl 2 rfl) ?_
        refine qr_get (ci := 2) (C := RX2) (T := TX2) (N := 4) hx hb hts hin2 hown hK (hC.vot i hi) rfl 0 (by decide) (hts (.fieldLink RX4 130 "QuorumLock$Voter" "row" "LQuorumLock$Row;") (by decide +kernel)) rfl dX4_takeVoteBack_83 ?_
        refine qc_v (va_runV (As := []) (rest := []) ⟨hx, hb, hml, hown, hts⟩ (c_X1_removeFirst l dd ga (2 * k - 1) (ad 12 i) (ad 13 i) (ad 14 i) x9 r9 (by omega) (by rw [hr9] at hrl2; simp at hrl2; omega) (hL.ne (qd.i (by decide) (by decide) hi) (qd.i (by decide) (by decide) hi) (by omega)) (hL.ne (qd.i (by decide) (by decide) hi) (qd.i (by decide) (by decide) hi) (by omega)) (hL.ne (qd.i (by decide) (by decide) hi) (qd.i (by decide) (by decide) hi) (by omega))) (cwV 0 hts gX4_takeVoteBack_X1_removeFirst rfl rfl rfl (by decide +kernel) ⟨Nat.le_of_ble_eq_true rfl, Nat.le_of_ble_eq_true rfl⟩) (qpreV hK (by have h9 := hC.row i hi; rw [hr9] at h9; exact h9) ((hC.row i hi).obj) rfl) rfl rfl hl.1 rfl (lv_room (Nat.le_of_ble_eq_true rfl)) dX4_takeVoteBack_86 ⟨Nat.zero_le _, Nat.zero_le _⟩) hS (fun q h => qA.row hi h) (fun H locs hp9 hz9 ho9 hS => ?_)
        have hC := hC.putRow (σ' := s_rw (s_tb (s_ln (s_rw σ i (q_ins (σ.2.2.1 i) a t)) i none) 6 i 0) i r9) hL hi ho9 (by simpa [s_rw, va_up] using hp9) rfl rfl (fun j h => va_up_ne _ _ h) rfl
        refine lv_aload_n hx hb dX4_takeVoteBack_89 rfl (lv_at hl 3 rfl) ?_
        refine lv_iload_n hx hb dX4_takeVoteBack_90 rfl (lv_at hl 4 rfl) ?_
        refine lv_iload hx hb dX4_takeVoteBack_91 (lv_at hl 1 rfl) ?_
        refine lv_iload hx hb dX4_takeVoteBack_93 (lv_at hl 0 rfl) ?_
        refine qc_v (va_runV (As := [.int (nI i), .int (nI x9.1), .int x9.2]) (rest := []) ⟨hx, hb, hml, hown, hts⟩ (c_X4_lend l dd ga n k ad (s_rw (s_tb (s_ln (s_rw σ i (q_ins (σ.2.2.1 i) a t)) i none) 6 i 0) i r9) hsq hL i x9.1 hi hx9 x9.2 (by have h9 := hcw i x9.1 hi hx9; show (σ.2.2.2.1 i x9.1).length < 8; omega)) (cwV 3 hts gX4_takeVoteBack_X4_lend rfl rfl rfl (by decide +kernel) ⟨Nat.le_of_ble_eq_true rfl, Nat.le_of_ble_eq_true rfl⟩) (qpreV hK hC hC.self rfl) rfl rfl hl.1 rfl (lv_room (Nat.le_of_ble_eq_true rfl)) dX4_takeVoteBack_95 ⟨Nat.zero_le _, Nat.zero_le _⟩) hS (fun q h => h) (fun H locs hp9 hz9 ho9 hS => ?_)
        have hfin : qC dd ga n k ad (q_home σ i a t true) H := by rw [ehm, q_next, hr9]; exact hp9
        exact q_vret hx hb hr hlocks hS hfin dX4_takeVoteBack_98
    · have hfin : qC dd ga n k ad (q_home σ i a t true) s.heap := by rw [q_home_no (fun h => c_23 (by rw [h]; rfl))]; exact hC
      exact q_vret hx hb hr hlocks hS hfin dX4_takeVoteBack_26
