set_option maxHeartbeats 4000000 in
set_option maxRecDepth 100000 in
/-- X5_asked -/
theorem c_X5_asked (l : Launch) (dd : va_G) (ga : Nat → ClassId) (n k : Nat) (ar : Nat → Nat) (σ : qSt) (hsq : qSq n k) (hL : qLr ar) (i a : Nat) (hi : i < n) (ha : a < n) (t : Int32) (hcap : qCap n k σ) : Met l yX5_asked wsX5_asked ({ frames := 2, cells := 0, slots := 0, locals := 49 }) (qPc dd ga [.ref (ar 0), .int (nI i), .int (nI a), .int t] (fun H => qR dd ga n k ar σ H)) (qQv (fun H => qR dd ga n k ar (q_asked σ i a t) H) (qAr ar)) 0 0 (qAr ar) := by
  refine Met.ofW (cc := cX5_asked) (maxL := 7) (ret := none) (by decide) rfl ?_
  intro p e s m args below meth c s₁ B hml hv
  obtain ⟨rfl, ⟨ρ, hRp, hW⟩, hK⟩ := hv
  have hx := B.exec
  have hb := B.bytes
  have hr := B.returns
  have hts := atoms_spec (ws := wsX5_asked) B.pre
  have hown : s.vm.findClass RX5 = some m.cls := findClass_of_methodNamed B.named
  have hlocks := B.notSynchronized
  have hS : qS (qAr ar) s.heap s.heap [] := qS.rf
  have hl := lv_entry ([.ref (ar 0), .int (nI i), .int (nI a), .int t]) (n := 7) (Nat.le_of_ble_eq_true rfl)
  rw [lg_entry_eq]
  generalize (lg_sl ([.ref (ar 0), .int (nI i), .int (nI a), .int t]) ++ List.replicate (7 - (lg_sl ([.ref (ar 0), .int (nI i), .int (nI a), .int t])).length) Slot.unset).toArray = ls at hl ⊢
  have hin5 : ∀ w ∈ wsX50, w ∈ wsX5_asked := by decide +kernel
  have hn1 := hsq.n.1
  have hn16 := hsq.n.2
  obtain ⟨hcw, hcr, hcx, hcl, hci⟩ := id hcap
  have hk4 := hsq.2.2
  have hrl := hcr i hi
  have hrn := hcx i hi
  rcases hln : σ.2.1 i with _ | ⟨b, u⟩
  · refine lv_aload_n hx hb dX5_asked_0 rfl (lv_at hl 0 rfl) ?_
    refine qr_get (ci := 5) (C := RX5) (T := TX5) (N := 19) hx hb hts hin5 hown hK hW.self rfl 8 (by decide) (hts (.fieldLink RX5 28 "QuorumLockModel" "lent" "[I") (by decide +kernel)) rfl dX5_asked_1 ?_
    refine lv_iload_n hx hb dX5_asked_4 rfl (lv_at hl 1 rfl) ?_
    refine qr_iald (v := (-1)) hx hb hK hW.a7 i (by omega) (by omega) rfl (by rw [(hRp.2.1 i hi).1, hln]; rfl) dX5_asked_5 ?_
    refine lv_iconst (v := (-1)) hx hb dX5_asked_6 (by decide) ?_
    refine lv_icmp_ne (tgt := 18) hx hb dX5_asked_7 (by decide) (fun c_7 => absurd rfl c_7) (fun c_7 => ?_)
    refine lv_aload_n hx hb dX5_asked_10 rfl (lv_at hl 0 rfl) ?_
    refine lv_iload_n hx hb dX5_asked_11 rfl (lv_at hl 1 rfl) ?_
    refine lv_iload_n hx hb dX5_asked_12 rfl (lv_at hl 2 rfl) ?_
    refine lv_iload_n hx hb dX5_asked_13 rfl (lv_at hl 3 rfl) ?_
    refine qc_v (va_runV (As := [.int (nI i), .int (nI a), .int t]) (rest := []) ⟨hx, hb, hml, hown, hts⟩ (c_X5_lend l dd ga n k ar σ hsq hL i a hi ha t (by have := hcw i a hi ha; omega)) (cwV 3 hts gX5_asked_X5_lend rfl rfl rfl (by decide +kernel) ⟨Nat.le_of_ble_eq_true rfl, Nat.le_of_ble_eq_true rfl⟩) (qpreV hK (⟨ρ, hRp, hW⟩) hW.self rfl) rfl rfl hl.1 rfl (lv_room (Nat.le_of_ble_eq_true rfl)) dX5_asked_14 ⟨Nat.zero_le _, Nat.zero_le _⟩) hS (fun q h => h) (fun H locs hp9 hz9 ho9 hS => ?_)
    have hfin := hp9
    exact q_vret hx hb hr hlocks hS (by rw [q_asked_none hln]; exact hfin) dX5_asked_17
  · have hb9 : b < n := hcl i hi (b, u) hln
    rcases hr9 : σ.2.2.1 i with _ | ⟨x9, r9⟩
    · have hpr : ¬ q_press (σ.2.2.1 i) u b = true := by rw [hr9]; exact (by decide : ¬ (false = true))
      obtain ⟨ρ0, eρ0⟩ : ∃ z, z = ρ := ⟨_, rfl⟩
      have hρ0 : ρ 11 (64 * i) = ρ0 11 (64 * i) := by rw [eρ0]
      have hρ0b : ρ 12 (64 * i) = ρ0 12 (64 * i) := by rw [eρ0]
      refine lv_aload_n hx hb dX5_asked_0 rfl (lv_at hl 0 rfl) ?_
      refine qr_get (ci := 5) (C := RX5) (T := TX5) (N := 19) hx hb hts hin5 hown hK hW.self rfl 8 (by decide) (hts (.fieldLink RX5 28 "QuorumLockModel" "lent" "[I") (by decide +kernel)) rfl dX5_asked_1 ?_
      refine lv_iload_n hx hb dX5_asked_4 rfl (lv_at hl 1 rfl) ?_
      refine qr_iald (v := (nI b)) hx hb hK hW.a7 i (by omega) (by omega) rfl (by rw [(hRp.2.1 i hi).1, hln]; rfl) dX5_asked_5 ?_
      refine lv_iconst (v := (-1)) hx hb dX5_asked_6 (by decide) ?_
      refine lv_icmp_ne (tgt := 18) hx hb dX5_asked_7 (by decide) (fun c_7 => ?_) (fun c_7 => absurd c_7 (q_nI_m1 (by omega)))
      refine lv_aload_n hx hb dX5_asked_18 rfl (lv_at hl 0 rfl) ?_
      refine qr_get (ci := 5) (C := RX5) (T := TX5) (N := 19) hx hb hts hin5 hown hK hW.self rfl 11 (by decide) (hts (.fieldLink RX5 38 "QuorumLockModel" "rows" "[I") (by decide +kernel)) rfl dX5_asked_19 ?_
      refine lv_iload_n hx hb dX5_asked_22 rfl (lv_at hl 1 rfl) ?_
      refine qr_iald (v := (nI (σ.2.2.1 i).length)) hx hb hK hW.a10 i (by omega) (by omega) rfl ((hRp.2.2.1 i hi).1) dX5_asked_23 ?_
      refine lv_if_le (tgt := 31) hx hb dX5_asked_24 (by decide) (fun c_24 => ?_) (fun c_24 => absurd (by rw [hr9]; decide) c_24)
      refine lv_iconst (v := 0) hx hb dX5_asked_31 (by decide) ?_
      refine lv_istore (lv' := [(4, .int 0), (0, .ref (ar 0)), (1, .int (nI i)), (2, .int (nI a)), (3, .int t)]) hx hb dX5_asked_32 hl (by decide) rfl (fun ls hl => ?_)
      refine lv_aload_n hx hb dX5_asked_34 rfl (lv_at hl 1 rfl) ?_
      refine qr_get (ci := 5) (C := RX5) (T := TX5) (N := 19) hx hb hts hin5 hown hK hW.self rfl 12 (by decide) (hts (.fieldLink RX5 41 "QuorumLockModel" "rowNode" "[I") (by decide +kernel)) rfl dX5_asked_35 ?_
      refine lv_bipush (v := nI 64) hx hb dX5_asked_38 (by decide) ?_
      refine lv_iload_n hx hb dX5_asked_40 rfl (lv_at hl 2 rfl) ?_
      refine lv_imul hx hb dX5_asked_41 ?_
      refine q_ti (y := nI (64 * i)) (pk_mul _ _) ?_
      refine qr_iald (v := (ρ0 11 (64 * i))) hx hb hK hW.a11 (64 * i) (by omega) (by omega) rfl hρ0 dX5_asked_42 ?_
      refine lv_istore (lv' := [(5, .int (ρ0 11 (64 * i))), (4, .int 0), (0, .ref (ar 0)), (1, .int (nI i)), (2, .int (nI a)), (3, .int t)]) hx hb dX5_asked_43 hl (by decide) rfl (fun ls hl => ?_)
      refine lv_aload_n hx hb dX5_asked_45 rfl (lv_at hl 2 rfl) ?_
      refine qr_get (ci := 5) (C := RX5) (T := TX5) (N := 19) hx hb hts hin5 hown hK hW.self rfl 13 (by decide) (hts (.fieldLink RX5 44 "QuorumLockModel" "rowTime" "[I") (by decide +kernel)) rfl dX5_asked_46 ?_
      refine lv_bipush (v := nI 64) hx hb dX5_asked_49 (by decide) ?_
      refine lv_iload_n hx hb dX5_asked_51 rfl (lv_at hl 3 rfl) ?_
      refine lv_imul hx hb dX5_asked_52 ?_
      refine q_ti (y := nI (64 * i)) (pk_mul _ _) ?_
      refine qr_iald (v := (ρ0 12 (64 * i))) hx hb hK hW.a12 (64 * i) (by omega) (by omega) rfl hρ0b dX5_asked_53 ?_
      refine lv_istore (lv' := [(6, .int (ρ0 12 (64 * i))), (5, .int (ρ0 11 (64 * i))), (4, .int 0), (0, .ref (ar 0)), (1, .int (nI i)), (2, .int (nI a)), (3, .int t)]) hx hb dX5_asked_54 hl (by decide) rfl (fun ls hl => ?_)
      refine lv_aload_n hx hb dX5_asked_56 rfl (lv_at hl 3 rfl) ?_
      refine lv_iload_n hx hb dX5_asked_57 rfl (lv_at hl 4 rfl) ?_
      refine lv_iload_n hx hb dX5_asked_58 rfl (lv_at hl 5 rfl) ?_
      refine lv_iload_n hx hb dX5_asked_59 rfl (lv_at hl 6 rfl) ?_
      refine qc_i (va_runV (As := [.int (nI i), .int (nI a), .int t]) (rest := []) ⟨hx, hb, hml, hown, hts⟩ (c_X5_line l dd ga n k ar σ hsq hL i a hi ha t (by omega) hrn) (cwV 3 hts gX5_asked_X5_line rfl rfl rfl (by decide +kernel) ⟨Nat.le_of_ble_eq_true rfl, Nat.le_of_ble_eq_true rfl⟩) (qpreV hK (⟨ρ, hRp, hW⟩) hW.self rfl) rfl rfl hl.1 rfl (lv_room (Nat.le_of_ble_eq_true rfl)) dX5_asked_60 ⟨Nat.zero_le _, Nat.zero_le _⟩) hS (fun q h => h) (fun v60 H locs hp9 hz9 ho9 hS => ?_)
      obtain ⟨e60, ρ, hRp, hW⟩ := hp9
      have hpl := q_pl_le (σ.2.2.1 i) a t (σ.2.2.1 i).length
      refine lv_if_ne (tgt := 161) hx hb dX5_asked_63 (by decide) (fun c_63 => ?_) (fun c_63 => ?_)
      · have hno : ¬ (q_pl (σ.2.2.1 i) a t (σ.2.2.1 i).length = 0 ∧ q_bef t a u b = true) := fun h => c_63 (by rw [e60, h.1]; rfl)
        refine lv_aload_n hx hb dX5_asked_161 rfl (lv_at hl 3 rfl) ?_
        refine lv_iload_n hx hb dX5_asked_162 rfl (lv_at hl 4 rfl) ?_
        refine lv_iload_n hx hb dX5_asked_163 rfl (lv_at hl 5 rfl) ?_
        refine lv_bipush (v := 6) hx hb dX5_asked_164 (by decide) ?_
        refine lv_iload_n hx hb dX5_asked_166 rfl (lv_at hl 6 rfl) ?_
        refine qc_v (va_runV (As := [.int (nI i), .int (nI a), .int 6, .int t]) (rest := []) ⟨hx, hb, hml, hown, hts⟩ (c_X5_send l dd ga n k ar (s_rw σ i (q_ins (σ.2.2.1 i) a t)) hsq hL i a hi ha 6 t (by have h9 := hcw i a hi ha; show (σ.2.2.2.1 i a).length ≤ 8; omega)) (cwV 4 hts gX5_asked_X5_send rfl rfl rfl (by decide +kernel) ⟨Nat.le_of_ble_eq_true rfl, Nat.le_of_ble_eq_true rfl⟩) (qpreV hK (⟨ρ, hRp, hW⟩) hW.self rfl) rfl rfl hl.1 rfl (lv_room (Nat.le_of_ble_eq_true rfl)) dX5_asked_167 ⟨Nat.zero_le _, Nat.zero_le _⟩) hS (fun q h => h) (fun H locs hp9 hz9 ho9 hS => ?_)
        have hfin : qR dd ga n k ar (q_asked σ i a t) H := by rw [q_asked_no hln hno]; exact hp9
        exact q_vret hx hb hr hlocks hS hfin dX5_asked_170
      · have hp0 : q_pl (σ.2.2.1 i) a t (σ.2.2.1 i).length = 0 := (nI_eq (a := q_pl (σ.2.2.1 i) a t (σ.2.2.1 i).length) (b := 0) (by omega) (by decide)).mp (e60.symm.trans c_63)
        refine lv_iload_n hx hb dX5_asked_66 rfl (lv_at hl 6 rfl) ?_
        refine lv_iload_n hx hb dX5_asked_67 rfl (lv_at hl 5 rfl) ?_
        refine lv_aload_n hx hb dX5_asked_68 rfl (lv_at hl 3 rfl) ?_
        refine qr_get (ci := 5) (C := RX5) (T := TX5) (N := 19) hx hb hts hin5 hown hK hW.self rfl 9 (by decide) (hts (.fieldLink RX5 31 "QuorumLockModel" "lentTime" "[I") (by decide +kernel)) rfl dX5_asked_69 ?_
        refine lv_iload_n hx hb dX5_asked_72 rfl (lv_at hl 4 rfl) ?_
        refine qr_iald (v := u) hx hb hK hW.a8 i (by omega) (by omega) rfl ((hRp.2.1 i hi).2 (b, u) hln) dX5_asked_73 ?_
        refine lv_aload_n hx hb dX5_asked_74 rfl (lv_at hl 3 rfl) ?_
        refine qr_get (ci := 5) (C := RX5) (T := TX5) (N := 19) hx hb hts hin5 hown hK hW.self rfl 8 (by decide) (hts (.fieldLink RX5 28 "QuorumLockModel" "lent" "[I") (by decide +kernel)) rfl dX5_asked_75 ?_
        refine lv_iload_n hx hb dX5_asked_78 rfl (lv_at hl 4 rfl) ?_
        refine qr_iald (v := (nI b)) hx hb hK hW.a7 i (by omega) (by omega) rfl ((hRp.2.1 i hi).1.trans (by rw [show (s_rw σ i (q_ins (σ.2.2.1 i) a t)).2.1 i = some (b, u) from hln]; rfl)) dX5_asked_79 ?_
        refine qc_i (va_runS (As := [.int t, .int (nI a), .int u, .int (nI b)]) (rest := []) ⟨hx, hb, hml, hown, hts⟩ (c_X5_isBefore l dd ga t (nI a) u (nI b)) (va_cwS 4 hts gX5_asked_X5_isBefore rfl rfl rfl (by decide +kernel) ⟨Nat.le_of_ble_eq_true rfl, Nat.le_of_ble_eq_true rfl⟩) (qpreS hK trivial) rfl rfl hl.1 rfl (lv_room (Nat.le_of_ble_eq_true rfl)) dX5_asked_80 ⟨Nat.zero_le _, Nat.zero_le _⟩) hS (fun q h => h.elim) (fun v80 H locs hp9 hz9 ho9 hS => ?_)
        have e80 : v80 = _ := hp9
        have hW := hW.same (fun q => ho9 q (fun h => h))
        refine lv_if_eq (tgt := 161) hx hb dX5_asked_83 (by decide) (fun c_83 => ?_) (fun c_83 => ?_)
        · have hno : ¬ (q_pl (σ.2.2.1 i) a t (σ.2.2.1 i).length = 0 ∧ q_bef t a u b = true) := fun h => by rw [if_pos ((q_befI (by omega) (by omega)).mpr h.2)] at e80; rw [e80] at c_83; exact absurd c_83 (by decide)
          refine lv_aload_n hx hb dX5_asked_161 rfl (lv_at hl 3 rfl) ?_
          refine lv_iload_n hx hb dX5_asked_162 rfl (lv_at hl 4 rfl) ?_
          refine lv_iload_n hx hb dX5_asked_163 rfl (lv_at hl 5 rfl) ?_
          refine lv_bipush (v := 6) hx hb dX5_asked_164 (by decide) ?_
          refine lv_iload_n hx hb dX5_asked_166 rfl (lv_at hl 6 rfl) ?_
          refine qc_v (va_runV (As := [.int (nI i), .int (nI a), .int 6, .int t]) (rest := []) ⟨hx, hb, hml, hown, hts⟩ (c_X5_send l dd ga n k ar (s_rw σ i (q_ins (σ.2.2.1 i) a t)) hsq hL i a hi ha 6 t (by have h9 := hcw i a hi ha; show (σ.2.2.2.1 i a).length ≤ 8; omega)) (cwV 4 hts gX5_asked_X5_send rfl rfl rfl (by decide +kernel) ⟨Nat.le_of_ble_eq_true rfl, Nat.le_of_ble_eq_true rfl⟩) (qpreV hK (⟨ρ, hRp, hW⟩) hW.self rfl) rfl rfl hl.1 rfl (lv_room (Nat.le_of_ble_eq_true rfl)) dX5_asked_167 ⟨Nat.zero_le _, Nat.zero_le _⟩) hS (fun q h => h) (fun H locs hp9 hz9 ho9 hS => ?_)
          have hfin : qR dd ga n k ar (q_asked σ i a t) H := by rw [q_asked_no hln hno]; exact hp9
          exact q_vret hx hb hr hlocks hS hfin dX5_asked_170
        · have hbf : q_bef t a u b = true := Classical.byContradiction fun h => by rw [if_neg (fun h2 => h ((q_befI (by omega) (by omega)).mp h2))] at e80; exact c_83 e80
          refine lv_iload hx hb dX5_asked_86 (lv_at hl 2 rfl) ?_
          refine lv_if_eq (tgt := 124) hx hb dX5_asked_88 (by decide) (fun c_88 => ?_) (fun c_88 => absurd rfl c_88)
          refine lv_aload_n hx hb dX5_asked_124 rfl (lv_at hl 3 rfl) ?_
          refine qr_get (ci := 5) (C := RX5) (T := TX5) (N := 19) hx hb hts hin5 hown hK hW.self rfl 10 (by decide) (hts (.fieldLink RX5 34 "QuorumLockModel" "inquired" "[Z") (by decide +kernel)) rfl dX5_asked_125 ?_
          refine lv_iload_n hx hb dX5_asked_128 rfl (lv_at hl 4 rfl) ?_
          refine qr_zald (v := (σ.1 6 i)) hx hb hK hW.a9 i (by omega) (by omega) rfl (hRp.t 6 i (by decide) hi) dX5_asked_129 ?_
          refine lv_if_ne (tgt := 170) hx hb dX5_asked_130 (by decide) (fun c_130 => ?_) (fun c_130 => ?_)
          · have hfin : qR dd ga n k ar (q_asked σ i a t) _ := (by rw [q_asked_yes0 hln hp0 hbf hpr, if_neg (show ¬ σ.1 6 i = 0 from c_130)]; exact ⟨ρ, hRp, hW⟩ : qR dd ga n k ar (q_asked σ i a t) H)
            exact q_vret hx hb hr hlocks hS hfin dX5_asked_170
          · have hi0 : σ.1 6 i = 0 := c_130
            refine lv_aload_n hx hb dX5_asked_133 rfl (lv_at hl 3 rfl) ?_
            refine qr_get (ci := 5) (C := RX5) (T := TX5) (N := 19) hx hb hts hin5 hown hK hW.self rfl 10 (by decide) (hts (.fieldLink RX5 34 "QuorumLockModel" "inquired" "[Z") (by decide +kernel)) rfl dX5_asked_134 ?_
            refine lv_iload_n hx hb dX5_asked_137 rfl (lv_at hl 4 rfl) ?_
            refine lv_iconst (v := 1) hx hb dX5_asked_138 (by decide) ?_
            refine qr_zast hx hb hK hW.a9 hS (⟨9, by decide, rfl⟩) i (by omega) (by omega) rfl rfl dX5_asked_139 (fun H locs hz9 ho9 hat9 hS => ?_)
            have hW := hW.put hL 9 i 1 (by decide) (by decide) ho9 hat9
            refine lv_aload_n hx hb dX5_asked_140 rfl (lv_at hl 3 rfl) ?_
            refine lv_iload_n hx hb dX5_asked_141 rfl (lv_at hl 4 rfl) ?_
            refine lv_aload_n hx hb dX5_asked_142 rfl (lv_at hl 3 rfl) ?_
            refine qr_get (ci := 5) (C := RX5) (T := TX5) (N := 19) hx hb hts hin5 hown hK hW.self rfl 8 (by decide) (hts (.fieldLink RX5 28 "QuorumLockModel" "lent" "[I") (by decide +kernel)) rfl dX5_asked_143 ?_
            refine lv_iload_n hx hb dX5_asked_146 rfl (lv_at hl 4 rfl) ?_
            refine qr_iald (v := (nI b)) hx hb hK hW.a7 i (by omega) (by omega) rfl (by simp [q2]; exact (hRp.2.1 i hi).1.trans (by rw [show (s_rw σ i (q_ins (σ.2.2.1 i) a t)).2.1 i = some (b, u) from hln]; rfl)) dX5_asked_147 ?_
            refine lv_iconst (v := 4) hx hb dX5_asked_148 (by decide) ?_
            refine lv_aload_n hx hb dX5_asked_149 rfl (lv_at hl 3 rfl) ?_
            refine qr_get (ci := 5) (C := RX5) (T := TX5) (N := 19) hx hb hts hin5 hown hK hW.self rfl 9 (by decide) (hts (.fieldLink RX5 31 "QuorumLockModel" "lentTime" "[I") (by decide +kernel)) rfl dX5_asked_150 ?_
            refine lv_iload_n hx hb dX5_asked_153 rfl (lv_at hl 4 rfl) ?_
            refine qr_iald (v := u) hx hb hK hW.a8 i (by omega) (by omega) rfl (by simp [q2]; exact (hRp.2.1 i hi).2 (b, u) hln) dX5_asked_154 ?_
            refine qc_v (va_runV (As := [.int (nI i), .int (nI b), .int 4, .int u]) (rest := []) ⟨hx, hb, hml, hown, hts⟩ (c_X5_send l dd ga n k ar (s_tb (s_rw σ i (q_ins (σ.2.2.1 i) a t)) 6 i 1) hsq hL i b hi hb9 4 u (by have h9 := hcw i b hi hb9; show (σ.2.2.2.1 i b).length ≤ 8; omega)) (cwV 4 hts gX5_asked_X5_send rfl rfl rfl (by decide +kernel) ⟨Nat.le_of_ble_eq_true rfl, Nat.le_of_ble_eq_true rfl⟩) (qpreV hK (⟨_, hRp.stb 6 i 1 (by decide), hW⟩) hW.self rfl) rfl rfl hl.1 rfl (lv_room (Nat.le_of_ble_eq_true rfl)) dX5_asked_155 ⟨Nat.zero_le _, Nat.zero_le _⟩) hS (fun q h => h) (fun H locs hp9 hz9 ho9 hS => ?_)
            have hfin : qR dd ga n k ar (q_asked σ i a t) H := by rw [q_asked_yes0 hln hp0 hbf hpr, if_pos hi0, ← q_send_tb6]; exact hp9
            refine lv_goto (tgt := 170) hx hb dX5_asked_158 (by decide) ?_
            exact q_vret hx hb hr hlocks hS hfin dX5_asked_170
    · have hx9 : x9.1 < n := hrn x9 (by rw [hr9]; exact List.mem_cons_self)
      refine lv_aload_n hx hb dX5_asked_0 rfl (lv_at hl 0 rfl) ?_
      refine qr_get (ci := 5) (C := RX5) (T := TX5) (N := 19) hx hb hts hin5 hown hK hW.self rfl 8 (by decide) (hts (.fieldLink RX5 28 "QuorumLockModel" "lent" "[I") (by decide +kernel)) rfl dX5_asked_1 ?_
      refine lv_iload_n hx hb dX5_asked_4 rfl (lv_at hl 1 rfl) ?_
      refine qr_iald (v := (nI b)) hx hb hK hW.a7 i (by omega) (by omega) rfl (by rw [(hRp.2.1 i hi).1, hln]; rfl) dX5_asked_5 ?_
      refine lv_iconst (v := (-1)) hx hb dX5_asked_6 (by decide) ?_
      refine lv_icmp_ne (tgt := 18) hx hb dX5_asked_7 (by decide) (fun c_7 => ?_) (fun c_7 => absurd c_7 (q_nI_m1 (by omega)))
      refine lv_aload_n hx hb dX5_asked_18 rfl (lv_at hl 0 rfl) ?_
      refine qr_get (ci := 5) (C := RX5) (T := TX5) (N := 19) hx hb hts hin5 hown hK hW.self rfl 11 (by decide) (hts (.fieldLink RX5 38 "QuorumLockModel" "rows" "[I") (by decide +kernel)) rfl dX5_asked_19 ?_
      refine lv_iload_n hx hb dX5_asked_22 rfl (lv_at hl 1 rfl) ?_
      refine qr_iald (v := (nI (σ.2.2.1 i).length)) hx hb hK hW.a10 i (by omega) (by omega) rfl ((hRp.2.2.1 i hi).1) dX5_asked_23 ?_
      refine lv_if_le (tgt := 31) hx hb dX5_asked_24 (by decide) (fun c_24 => absurd c_24 (nI_nle (by rw [hr9]; simp) (by omega))) (fun c_24 => ?_)
      refine lv_iconst (v := 1) hx hb dX5_asked_27 (by decide) ?_
      refine lv_goto (tgt := 32) hx hb dX5_asked_28 (by decide) ?_
      refine lv_istore (lv' := [(4, .int 1), (0, .ref (ar 0)), (1, .int (nI i)), (2, .int (nI a)), (3, .int t)]) hx hb dX5_asked_32 hl (by decide) rfl (fun ls hl => ?_)
      refine lv_aload_n hx hb dX5_asked_34 rfl (lv_at hl 1 rfl) ?_
      refine qr_get (ci := 5) (C := RX5) (T := TX5) (N := 19) hx hb hts hin5 hown hK hW.self rfl 12 (by decide) (hts (.fieldLink RX5 41 "QuorumLockModel" "rowNode" "[I") (by decide +kernel)) rfl dX5_asked_35 ?_
      refine lv_bipush (v := nI 64) hx hb dX5_asked_38 (by decide) ?_
      refine lv_iload_n hx hb dX5_asked_40 rfl (lv_at hl 2 rfl) ?_
      refine lv_imul hx hb dX5_asked_41 ?_
      refine q_ti (y := nI (64 * i)) (pk_mul _ _) ?_
      refine qr_iald (v := (nI x9.1)) hx hb hK hW.a11 (64 * i) (by omega) (by omega) rfl ((hRp.2.2.1 i hi).2.2 0 x9 (by rw [hr9]; rfl)).1 dX5_asked_42 ?_
      refine lv_istore (lv' := [(5, .int (nI x9.1)), (4, .int 1), (0, .ref (ar 0)), (1, .int (nI i)), (2, .int (nI a)), (3, .int t)]) hx hb dX5_asked_43 hl (by decide) rfl (fun ls hl => ?_)
      refine lv_aload_n hx hb dX5_asked_45 rfl (lv_at hl 2 rfl) ?_
      refine qr_get (ci := 5) (C := RX5) (T := TX5) (N := 19) hx hb hts hin5 hown hK hW.self rfl 13 (by decide) (hts (.fieldLink RX5 44 "QuorumLockModel" "rowTime" "[I") (by decide +kernel)) rfl dX5_asked_46 ?_
      refine lv_bipush (v := nI 64) hx hb dX5_asked_49 (by decide) ?_
      refine lv_iload_n hx hb dX5_asked_51 rfl (lv_at hl 3 rfl) ?_
      refine lv_imul hx hb dX5_asked_52 ?_
      refine q_ti (y := nI (64 * i)) (pk_mul _ _) ?_
      refine qr_iald (v := x9.2) hx hb hK hW.a12 (64 * i) (by omega) (by omega) rfl ((hRp.2.2.1 i hi).2.2 0 x9 (by rw [hr9]; rfl)).2 dX5_asked_53 ?_
      refine lv_istore (lv' := [(6, .int x9.2), (5, .int (nI x9.1)), (4, .int 1), (0, .ref (ar 0)), (1, .int (nI i)), (2, .int (nI a)), (3, .int t)]) hx hb dX5_asked_54 hl (by decide) rfl (fun ls hl => ?_)
      refine lv_aload_n hx hb dX5_asked_56 rfl (lv_at hl 3 rfl) ?_
      refine lv_iload_n hx hb dX5_asked_57 rfl (lv_at hl 4 rfl) ?_
      refine lv_iload_n hx hb dX5_asked_58 rfl (lv_at hl 5 rfl) ?_
      refine lv_iload_n hx hb dX5_asked_59 rfl (lv_at hl 6 rfl) ?_
      refine qc_i (va_runV (As := [.int (nI i), .int (nI a), .int t]) (rest := []) ⟨hx, hb, hml, hown, hts⟩ (c_X5_line l dd ga n k ar σ hsq hL i a hi ha t (by omega) hrn) (cwV 3 hts gX5_asked_X5_line rfl rfl rfl (by decide +kernel) ⟨Nat.le_of_ble_eq_true rfl, Nat.le_of_ble_eq_true rfl⟩) (qpreV hK (⟨ρ, hRp, hW⟩) hW.self rfl) rfl rfl hl.1 rfl (lv_room (Nat.le_of_ble_eq_true rfl)) dX5_asked_60 ⟨Nat.zero_le _, Nat.zero_le _⟩) hS (fun q h => h) (fun v60 H locs hp9 hz9 ho9 hS => ?_)
      obtain ⟨e60, ρ, hRp, hW⟩ := hp9
      have hpl := q_pl_le (σ.2.2.1 i) a t (σ.2.2.1 i).length
      refine lv_if_ne (tgt := 161) hx hb dX5_asked_63 (by decide) (fun c_63 => ?_) (fun c_63 => ?_)
      · have hno : ¬ (q_pl (σ.2.2.1 i) a t (σ.2.2.1 i).length = 0 ∧ q_bef t a u b = true) := fun h => c_63 (by rw [e60, h.1]; rfl)
        refine lv_aload_n hx hb dX5_asked_161 rfl (lv_at hl 3 rfl) ?_
        refine lv_iload_n hx hb dX5_asked_162 rfl (lv_at hl 4 rfl) ?_
        refine lv_iload_n hx hb dX5_asked_163 rfl (lv_at hl 5 rfl) ?_
        refine lv_bipush (v := 6) hx hb dX5_asked_164 (by decide) ?_
        refine lv_iload_n hx hb dX5_asked_166 rfl (lv_at hl 6 rfl) ?_
        refine qc_v (va_runV (As := [.int (nI i), .int (nI a), .int 6, .int t]) (rest := []) ⟨hx, hb, hml, hown, hts⟩ (c_X5_send l dd ga n k ar (s_rw σ i (q_ins (σ.2.2.1 i) a t)) hsq hL i a hi ha 6 t (by have h9 := hcw i a hi ha; show (σ.2.2.2.1 i a).length ≤ 8; omega)) (cwV 4 hts gX5_asked_X5_send rfl rfl rfl (by decide +kernel) ⟨Nat.le_of_ble_eq_true rfl, Nat.le_of_ble_eq_true rfl⟩) (qpreV hK (⟨ρ, hRp, hW⟩) hW.self rfl) rfl rfl hl.1 rfl (lv_room (Nat.le_of_ble_eq_true rfl)) dX5_asked_167 ⟨Nat.zero_le _, Nat.zero_le _⟩) hS (fun q h => h) (fun H locs hp9 hz9 ho9 hS => ?_)
        have hfin : qR dd ga n k ar (q_asked σ i a t) H := by rw [q_asked_no hln hno]; exact hp9
        exact q_vret hx hb hr hlocks hS hfin dX5_asked_170
      · have hp0 : q_pl (σ.2.2.1 i) a t (σ.2.2.1 i).length = 0 := (nI_eq (a := q_pl (σ.2.2.1 i) a t (σ.2.2.1 i).length) (b := 0) (by omega) (by decide)).mp (e60.symm.trans c_63)
        refine lv_iload_n hx hb dX5_asked_66 rfl (lv_at hl 6 rfl) ?_
        refine lv_iload_n hx hb dX5_asked_67 rfl (lv_at hl 5 rfl) ?_
        refine lv_aload_n hx hb dX5_asked_68 rfl (lv_at hl 3 rfl) ?_
        refine qr_get (ci := 5) (C := RX5) (T := TX5) (N := 19) hx hb hts hin5 hown hK hW.self rfl 9 (by decide) (hts (.fieldLink RX5 31 "QuorumLockModel" "lentTime" "[I") (by decide +kernel)) rfl dX5_asked_69 ?_
        refine lv_iload_n hx hb dX5_asked_72 rfl (lv_at hl 4 rfl) ?_
        refine qr_iald (v := u) hx hb hK hW.a8 i (by omega) (by omega) rfl ((hRp.2.1 i hi).2 (b, u) hln) dX5_asked_73 ?_
        refine lv_aload_n hx hb dX5_asked_74 rfl (lv_at hl 3 rfl) ?_
        refine qr_get (ci := 5) (C := RX5) (T := TX5) (N := 19) hx hb hts hin5 hown hK hW.self rfl 8 (by decide) (hts (.fieldLink RX5 28 "QuorumLockModel" "lent" "[I") (by decide +kernel)) rfl dX5_asked_75 ?_
        refine lv_iload_n hx hb dX5_asked_78 rfl (lv_at hl 4 rfl) ?_
        refine qr_iald (v := (nI b)) hx hb hK hW.a7 i (by omega) (by omega) rfl ((hRp.2.1 i hi).1.trans (by rw [show (s_rw σ i (q_ins (σ.2.2.1 i) a t)).2.1 i = some (b, u) from hln]; rfl)) dX5_asked_79 ?_
        refine qc_i (va_runS (As := [.int t, .int (nI a), .int u, .int (nI b)]) (rest := []) ⟨hx, hb, hml, hown, hts⟩ (c_X5_isBefore l dd ga t (nI a) u (nI b)) (va_cwS 4 hts gX5_asked_X5_isBefore rfl rfl rfl (by decide +kernel) ⟨Nat.le_of_ble_eq_true rfl, Nat.le_of_ble_eq_true rfl⟩) (qpreS hK trivial) rfl rfl hl.1 rfl (lv_room (Nat.le_of_ble_eq_true rfl)) dX5_asked_80 ⟨Nat.zero_le _, Nat.zero_le _⟩) hS (fun q h => h.elim) (fun v80 H locs hp9 hz9 ho9 hS => ?_)
        have e80 : v80 = _ := hp9
        have hW := hW.same (fun q => ho9 q (fun h => h))
        refine lv_if_eq (tgt := 161) hx hb dX5_asked_83 (by decide) (fun c_83 => ?_) (fun c_83 => ?_)
        · have hno : ¬ (q_pl (σ.2.2.1 i) a t (σ.2.2.1 i).length = 0 ∧ q_bef t a u b = true) := fun h => by rw [if_pos ((q_befI (by omega) (by omega)).mpr h.2)] at e80; rw [e80] at c_83; exact absurd c_83 (by decide)
          refine lv_aload_n hx hb dX5_asked_161 rfl (lv_at hl 3 rfl) ?_
          refine lv_iload_n hx hb dX5_asked_162 rfl (lv_at hl 4 rfl) ?_
          refine lv_iload_n hx hb dX5_asked_163 rfl (lv_at hl 5 rfl) ?_
          refine lv_bipush (v := 6) hx hb dX5_asked_164 (by decide) ?_
          refine lv_iload_n hx hb dX5_asked_166 rfl (lv_at hl 6 rfl) ?_
          refine qc_v (va_runV (As := [.int (nI i), .int (nI a), .int 6, .int t]) (rest := []) ⟨hx, hb, hml, hown, hts⟩ (c_X5_send l dd ga n k ar (s_rw σ i (q_ins (σ.2.2.1 i) a t)) hsq hL i a hi ha 6 t (by have h9 := hcw i a hi ha; show (σ.2.2.2.1 i a).length ≤ 8; omega)) (cwV 4 hts gX5_asked_X5_send rfl rfl rfl (by decide +kernel) ⟨Nat.le_of_ble_eq_true rfl, Nat.le_of_ble_eq_true rfl⟩) (qpreV hK (⟨ρ, hRp, hW⟩) hW.self rfl) rfl rfl hl.1 rfl (lv_room (Nat.le_of_ble_eq_true rfl)) dX5_asked_167 ⟨Nat.zero_le _, Nat.zero_le _⟩) hS (fun q h => h) (fun H locs hp9 hz9 ho9 hS => ?_)
          have hfin : qR dd ga n k ar (q_asked σ i a t) H := by rw [q_asked_no hln hno]; exact hp9
          exact q_vret hx hb hr hlocks hS hfin dX5_asked_170
        · have hbf : q_bef t a u b = true := Classical.byContradiction fun h => by rw [if_neg (fun h2 => h ((q_befI (by omega) (by omega)).mp h2))] at e80; exact c_83 e80
          refine lv_iload hx hb dX5_asked_86 (lv_at hl 2 rfl) ?_
          refine lv_if_eq (tgt := 124) hx hb dX5_asked_88 (by decide) (fun c_88 => absurd c_88 (by decide)) (fun c_88 => ?_)
          refine lv_iload hx hb dX5_asked_91 (lv_at hl 0 rfl) ?_
          refine lv_iload hx hb dX5_asked_93 (lv_at hl 1 rfl) ?_
          refine lv_aload_n hx hb dX5_asked_95 rfl (lv_at hl 3 rfl) ?_
          refine qr_get (ci := 5) (C := RX5) (T := TX5) (N := 19) hx hb hts hin5 hown hK hW.self rfl 9 (by decide) (hts (.fieldLink RX5 31 "QuorumLockModel" "lentTime" "[I") (by decide +kernel)) rfl dX5_asked_96 ?_
          refine lv_iload_n hx hb dX5_asked_99 rfl (lv_at hl 4 rfl) ?_
          refine qr_iald (v := u) hx hb hK hW.a8 i (by omega) (by omega) rfl ((hRp.2.1 i hi).2 (b, u) hln) dX5_asked_100 ?_
          refine lv_aload_n hx hb dX5_asked_101 rfl (lv_at hl 3 rfl) ?_
          refine qr_get (ci := 5) (C := RX5) (T := TX5) (N := 19) hx hb hts hin5 hown hK hW.self rfl 8 (by decide) (hts (.fieldLink RX5 28 "QuorumLockModel" "lent" "[I") (by decide +kernel)) rfl dX5_asked_102 ?_
          refine lv_iload_n hx hb dX5_asked_105 rfl (lv_at hl 4 rfl) ?_
          refine qr_iald (v := (nI b)) hx hb hK hW.a7 i (by omega) (by omega) rfl ((hRp.2.1 i hi).1.trans (by rw [show (s_rw σ i (q_ins (σ.2.2.1 i) a t)).2.1 i = some (b, u) from hln]; rfl)) dX5_asked_106 ?_
          refine qc_i (va_runS (As := [.int x9.2, .int (nI x9.1), .int u, .int (nI b)]) (rest := []) ⟨hx, hb, hml, hown, hts⟩ (c_X5_isBefore l dd ga x9.2 (nI x9.1) u (nI b)) (va_cwS 4 hts gX5_asked_X5_isBefore rfl rfl rfl (by decide +kernel) ⟨Nat.le_of_ble_eq_true rfl, Nat.le_of_ble_eq_true rfl⟩) (qpreS hK trivial) rfl rfl hl.1 rfl (lv_room (Nat.le_of_ble_eq_true rfl)) dX5_asked_107 ⟨Nat.zero_le _, Nat.zero_le _⟩) hS (fun q h => h.elim) (fun v107 H locs hp9 hz9 ho9 hS => ?_)
          have e107 : v107 = _ := hp9
          have hW := hW.same (fun q => ho9 q (fun h => h))
          refine lv_if_eq (tgt := 124) hx hb dX5_asked_110 (by decide) (fun c_110 => ?_) (fun c_110 => ?_)
          · have hpr : ¬ q_press (σ.2.2.1 i) u b = true := fun h => by rw [hr9] at h; rw [if_pos ((q_befI (by omega) (by omega)).mpr (show q_bef x9.2 x9.1 u b = true from h))] at e107; rw [e107] at c_110; exact absurd c_110 (by decide)
            refine lv_aload_n hx hb dX5_asked_124 rfl (lv_at hl 3 rfl) ?_
            refine qr_get (ci := 5) (C := RX5) (T := TX5) (N := 19) hx hb hts hin5 hown hK hW.self rfl 10 (by decide) (hts (.fieldLink RX5 34 "QuorumLockModel" "inquired" "[Z") (by decide +kernel)) rfl dX5_asked_125 ?_
            refine lv_iload_n hx hb dX5_asked_128 rfl (lv_at hl 4 rfl) ?_
            refine qr_zald (v := (σ.1 6 i)) hx hb hK hW.a9 i (by omega) (by omega) rfl (hRp.t 6 i (by decide) hi) dX5_asked_129 ?_
            refine lv_if_ne (tgt := 170) hx hb dX5_asked_130 (by decide) (fun c_130 => ?_) (fun c_130 => ?_)
            · have hfin : qR dd ga n k ar (q_asked σ i a t) _ := (by rw [q_asked_yes0 hln hp0 hbf hpr, if_neg (show ¬ σ.1 6 i = 0 from c_130)]; exact ⟨ρ, hRp, hW⟩ : qR dd ga n k ar (q_asked σ i a t) H)
              exact q_vret hx hb hr hlocks hS hfin dX5_asked_170
            · have hi0 : σ.1 6 i = 0 := c_130
              refine lv_aload_n hx hb dX5_asked_133 rfl (lv_at hl 3 rfl) ?_
              refine qr_get (ci := 5) (C := RX5) (T := TX5) (N := 19) hx hb hts hin5 hown hK hW.self rfl 10 (by decide) (hts (.fieldLink RX5 34 "QuorumLockModel" "inquired" "[Z") (by decide +kernel)) rfl dX5_asked_134 ?_
              refine lv_iload_n hx hb dX5_asked_137 rfl (lv_at hl 4 rfl) ?_
              refine lv_iconst (v := 1) hx hb dX5_asked_138 (by decide) ?_
              refine qr_zast hx hb hK hW.a9 hS (⟨9, by decide, rfl⟩) i (by omega) (by omega) rfl rfl dX5_asked_139 (fun H locs hz9 ho9 hat9 hS => ?_)
              have hW := hW.put hL 9 i 1 (by decide) (by decide) ho9 hat9
              refine lv_aload_n hx hb dX5_asked_140 rfl (lv_at hl 3 rfl) ?_
              refine lv_iload_n hx hb dX5_asked_141 rfl (lv_at hl 4 rfl) ?_
              refine lv_aload_n hx hb dX5_asked_142 rfl (lv_at hl 3 rfl) ?_
              refine qr_get (ci := 5) (C := RX5) (T := TX5) (N := 19) hx hb hts hin5 hown hK hW.self rfl 8 (by decide) (hts (.fieldLink RX5 28 "QuorumLockModel" "lent" "[I") (by decide +kernel)) rfl dX5_asked_143 ?_
              refine lv_iload_n hx hb dX5_asked_146 rfl (lv_at hl 4 rfl) ?_
              refine qr_iald (v := (nI b)) hx hb hK hW.a7 i (by omega) (by omega) rfl (by simp [q2]; exact (hRp.2.1 i hi).1.trans (by rw [show (s_rw σ i (q_ins (σ.2.2.1 i) a t)).2.1 i = some (b, u) from hln]; rfl)) dX5_asked_147 ?_
              refine lv_iconst (v := 4) hx hb dX5_asked_148 (by decide) ?_
              refine lv_aload_n hx hb dX5_asked_149 rfl (lv_at hl 3 rfl) ?_
              refine qr_get (ci := 5) (C := RX5) (T := TX5) (N := 19) hx hb hts hin5 hown hK hW.self rfl 9 (by decide) (hts (.fieldLink RX5 31 "QuorumLockModel" "lentTime" "[I") (by decide +kernel)) rfl dX5_asked_150 ?_
              refine lv_iload_n hx hb dX5_asked_153 rfl (lv_at hl 4 rfl) ?_
              refine qr_iald (v := u) hx hb hK hW.a8 i (by omega) (by omega) rfl (by simp [q2]; exact (hRp.2.1 i hi).2 (b, u) hln) dX5_asked_154 ?_
              refine qc_v (va_runV (As := [.int (nI i), .int (nI b), .int 4, .int u]) (rest := []) ⟨hx, hb, hml, hown, hts⟩ (c_X5_send l dd ga n k ar (s_tb (s_rw σ i (q_ins (σ.2.2.1 i) a t)) 6 i 1) hsq hL i b hi hb9 4 u (by have h9 := hcw i b hi hb9; show (σ.2.2.2.1 i b).length ≤ 8; omega)) (cwV 4 hts gX5_asked_X5_send rfl rfl rfl (by decide +kernel) ⟨Nat.le_of_ble_eq_true rfl, Nat.le_of_ble_eq_true rfl⟩) (qpreV hK (⟨_, hRp.stb 6 i 1 (by decide), hW⟩) hW.self rfl) rfl rfl hl.1 rfl (lv_room (Nat.le_of_ble_eq_true rfl)) dX5_asked_155 ⟨Nat.zero_le _, Nat.zero_le _⟩) hS (fun q h => h) (fun H locs hp9 hz9 ho9 hS => ?_)
              have hfin : qR dd ga n k ar (q_asked σ i a t) H := by rw [q_asked_yes0 hln hp0 hbf hpr, if_pos hi0, ← q_send_tb6]; exact hp9
              refine lv_goto (tgt := 170) hx hb dX5_asked_158 (by decide) ?_
              exact q_vret hx hb hr hlocks hS hfin dX5_asked_170
          · have hpr : q_press (σ.2.2.1 i) u b = true := Classical.byContradiction fun h => by rw [hr9] at h; rw [if_neg (fun h2 => h ((q_befI (by omega) (by omega)).mp h2))] at e107; exact c_110 e107
            refine lv_aload_n hx hb dX5_asked_113 rfl (lv_at hl 3 rfl) ?_
            refine lv_iload_n hx hb dX5_asked_114 rfl (lv_at hl 4 rfl) ?_
            refine lv_iload hx hb dX5_asked_115 (lv_at hl 1 rfl) ?_
            refine lv_bipush (v := 6) hx hb dX5_asked_117 (by decide) ?_
            refine lv_iload hx hb dX5_asked_119 (lv_at hl 0 rfl) ?_
            refine qc_v (va_runV (As := [.int (nI i), .int (nI x9.1), .int 6, .int x9.2]) (rest := []) ⟨hx, hb, hml, hown, hts⟩ (c_X5_send l dd ga n k ar (s_rw σ i (q_ins (σ.2.2.1 i) a t)) hsq hL i x9.1 hi hx9 6 x9.2 (by have h9 := hcw i x9.1 hi hx9; show (σ.2.2.2.1 i x9.1).length ≤ 8; omega)) (cwV 4 hts gX5_asked_X5_send rfl rfl rfl (by decide +kernel) ⟨Nat.le_of_ble_eq_true rfl, Nat.le_of_ble_eq_true rfl⟩) (qpreV hK (⟨ρ, hRp, hW⟩) hW.self rfl) rfl rfl hl.1 rfl (lv_room (Nat.le_of_ble_eq_true rfl)) dX5_asked_121 ⟨Nat.zero_le _, Nat.zero_le _⟩) hS (fun q h => h) (fun H locs hp9 hz9 ho9 hS => ?_)
            obtain ⟨ρ, hRp, hW⟩ := hp9
            refine lv_aload_n hx hb dX5_asked_124 rfl (lv_at hl 3 rfl) ?_
            refine qr_get (ci := 5) (C := RX5) (T := TX5) (N := 19) hx hb hts hin5 hown hK hW.self rfl 10 (by decide) (hts (.fieldLink RX5 34 "QuorumLockModel" "inquired" "[Z") (by decide +kernel)) rfl dX5_asked_125 ?_
            refine lv_iload_n hx hb dX5_asked_128 rfl (lv_at hl 4 rfl) ?_
            refine qr_zald (v := (σ.1 6 i)) hx hb hK hW.a9 i (by omega) (by omega) rfl (hRp.t 6 i (by decide) hi) dX5_asked_129 ?_
            refine lv_if_ne (tgt := 170) hx hb dX5_asked_130 (by decide) (fun c_130 => ?_) (fun c_130 => ?_)
            · have hfin : qR dd ga n k ar (q_asked σ i a t) _ := (by rw [q_asked_yes1 hln hp0 hbf hr9 hpr, if_neg (show ¬ σ.1 6 i = 0 from c_130)]; exact ⟨ρ, hRp, hW⟩ : qR dd ga n k ar (q_asked σ i a t) H)
              exact q_vret hx hb hr hlocks hS hfin dX5_asked_170
            · have hi0 : σ.1 6 i = 0 := c_130
              refine lv_aload_n hx hb dX5_asked_133 rfl (lv_at hl 3 rfl) ?_
              refine qr_get (ci := 5) (C := RX5) (T := TX5) (N := 19) hx hb hts hin5 hown hK hW.self rfl 10 (by decide) (hts (.fieldLink RX5 34 "QuorumLockModel" "inquired" "[Z") (by decide +kernel)) rfl dX5_asked_134 ?_
              refine lv_iload_n hx hb dX5_asked_137 rfl (lv_at hl 4 rfl) ?_
              refine lv_iconst (v := 1) hx hb dX5_asked_138 (by decide) ?_
              refine qr_zast hx hb hK hW.a9 hS (⟨9, by decide, rfl⟩) i (by omega) (by omega) rfl rfl dX5_asked_139 (fun H locs hz9 ho9 hat9 hS => ?_)
              have hW := hW.put hL 9 i 1 (by decide) (by decide) ho9 hat9
              refine lv_aload_n hx hb dX5_asked_140 rfl (lv_at hl 3 rfl) ?_
              refine lv_iload_n hx hb dX5_asked_141 rfl (lv_at hl 4 rfl) ?_
              refine lv_aload_n hx hb dX5_asked_142 rfl (lv_at hl 3 rfl) ?_
              refine qr_get (ci := 5) (C := RX5) (T := TX5) (N := 19) hx hb hts hin5 hown hK hW.self rfl 8 (by decide) (hts (.fieldLink RX5 28 "QuorumLockModel" "lent" "[I") (by decide +kernel)) rfl dX5_asked_143 ?_
              refine lv_iload_n hx hb dX5_asked_146 rfl (lv_at hl 4 rfl) ?_
              refine qr_iald (v := (nI b)) hx hb hK hW.a7 i (by omega) (by omega) rfl (by simp [q2]; exact (hRp.2.1 i hi).1.trans (by rw [show (s_send (s_rw σ i (q_ins (σ.2.2.1 i) a t)) i x9.1 6 x9.2).2.1 i = some (b, u) from hln]; rfl)) dX5_asked_147 ?_
              refine lv_iconst (v := 4) hx hb dX5_asked_148 (by decide) ?_
              refine lv_aload_n hx hb dX5_asked_149 rfl (lv_at hl 3 rfl) ?_
              refine qr_get (ci := 5) (C := RX5) (T := TX5) (N := 19) hx hb hts hin5 hown hK hW.self rfl 9 (by decide) (hts (.fieldLink RX5 31 "QuorumLockModel" "lentTime" "[I") (by decide +kernel)) rfl dX5_asked_150 ?_
              refine lv_iload_n hx hb dX5_asked_153 rfl (lv_at hl 4 rfl) ?_
              refine qr_iald (v := u) hx hb hK hW.a8 i (by omega) (by omega) rfl (by simp [q2]; exact (hRp.2.1 i hi).2 (b, u) hln) dX5_asked_154 ?_
              refine qc_v (va_runV (As := [.int (nI i), .int (nI b), .int 4, .int u]) (rest := []) ⟨hx, hb, hml, hown, hts⟩ (c_X5_send l dd ga n k ar (s_tb (s_send (s_rw σ i (q_ins (σ.2.2.1 i) a t)) i x9.1 6 x9.2) 6 i 1) hsq hL i b hi hb9 4 u (by have h9 := hcw i b hi hb9; have h8 := q_send_len (s_rw σ i (q_ins (σ.2.2.1 i) a t)) i x9.1 6 x9.2 i b; have h7 : ((s_rw σ i (q_ins (σ.2.2.1 i) a t)).2.2.2.1 i b).length = (σ.2.2.2.1 i b).length := rfl; show (((s_send (s_rw σ i (q_ins (σ.2.2.1 i) a t)) i x9.1 6 x9.2)).2.2.2.1 i b).length ≤ 8; omega)) (cwV 4 hts gX5_asked_X5_send rfl rfl rfl (by decide +kernel) ⟨Nat.le_of_ble_eq_true rfl, Nat.le_of_ble_eq_true rfl⟩) (qpreV hK (⟨_, hRp.stb 6 i 1 (by decide), hW⟩) hW.self rfl) rfl rfl hl.1 rfl (lv_room (Nat.le_of_ble_eq_true rfl)) dX5_asked_155 ⟨Nat.zero_le _, Nat.zero_le _⟩) hS (fun q h => h) (fun H locs hp9 hz9 ho9 hS => ?_)
              have hfin : qR dd ga n k ar (q_asked σ i a t) H := by rw [q_asked_yes1 hln hp0 hbf hr9 hpr, if_pos hi0, ← q_send_tb6]; exact hp9
              refine lv_goto (tgt := 170) hx hb dX5_asked_158 (by decide) ?_
              exact q_vret hx hb hr hlocks hS hfin dX5_asked_170
