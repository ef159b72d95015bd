/-! the reference's small methods -/
theorem qRp.sln {n : Nat} {σ : qSt} {ρ : Nat → Nat → Int32} (h : qRp n σ ρ) (i a : Nat) (t : Int32) : qRp n (s_ln σ i (some (a, t))) (q2 (q2 ρ 7 i (nI a)) 8 i t) := by
  refine ⟨fun g j hg hj => ?_, fun j hj => ?_, fun j hj => ?_, fun f9 t9 hf9 ht9 => ?_, h.2.2.2.2⟩
  · have := q_ai_n hg
    rw [q2_n (by omega), q2_n (by omega)]; exact h.1 g j hg hj
  · show _ = q_on (va_up σ.2.1 i (some (a, t)) j) ∧ ∀ x, va_up σ.2.1 i (some (a, t)) j = some x → _
    by_cases hc : j = i
    · subst hc
      rw [va_up_self]
      refine ⟨by simp [q2, q_on], fun x hx => ?_⟩
      cases hx
      simp [q2]
    · rw [va_up_ne _ _ hc, q2_n (by omega), q2_n (by omega), q2_n (by omega), q2_n (by omega)]; exact h.2.1 j hj
  · refine ⟨?_, (h.2.2.1 j hj).2.1, fun j9 x9 hx => ?_⟩
    · rw [q2_n (by omega), q2_n (by omega)]; exact (h.2.2.1 j hj).1
    · rw [q2_n (by omega), q2_n (by omega), q2_n (by omega), q2_n (by omega)]; exact (h.2.2.1 j hj).2.2 j9 x9 hx
  · refine ⟨?_, (h.2.2.2.1 f9 t9 hf9 ht9).2.1, fun j9 x9 hx => ?_⟩
    · rw [q2_n (by omega), q2_n (by omega)]; exact (h.2.2.2.1 f9 t9 hf9 ht9).1
    · rw [q2_n (by omega), q2_n (by omega), q2_n (by omega), q2_n (by omega), q2_n (by omega), q2_n (by omega)]; exact (h.2.2.2.1 f9 t9 hf9 ht9).2.2 j9 x9 hx
theorem qRp.sln0 {n : Nat} {σ : qSt} {ρ : Nat → Nat → Int32} (h : qRp n σ ρ) (i : Nat) : qRp n (s_ln σ i none) (q2 ρ 7 i (-1)) := by
  refine ⟨fun g j hg hj => ?_, fun j hj => ?_, fun j hj => ?_, fun f9 t9 hf9 ht9 => ?_, h.2.2.2.2⟩
  · have := q_ai_n hg
    rw [q2_n (by omega)]; exact h.1 g j hg hj
  · show _ = q_on (va_up σ.2.1 i none j) ∧ ∀ x, va_up σ.2.1 i none j = some x → _
    by_cases hc : j = i
    · subst hc
      rw [va_up_self]
      exact ⟨by simp [q2, q_on], fun x hx => by cases hx⟩
    · rw [va_up_ne _ _ hc, q2_n (by omega), q2_n (by omega)]; exact h.2.1 j hj
  · refine ⟨?_, (h.2.2.1 j hj).2.1, fun j9 x9 hx => ?_⟩
    · rw [q2_n (by omega)]; exact (h.2.2.1 j hj).1
    · rw [q2_n (by omega), q2_n (by omega)]; exact (h.2.2.1 j hj).2.2 j9 x9 hx
  · refine ⟨?_, (h.2.2.2.1 f9 t9 hf9 ht9).2.1, fun j9 x9 hx => ?_⟩
    · rw [q2_n (by omega)]; exact (h.2.2.2.1 f9 t9 hf9 ht9).1
    · rw [q2_n (by omega), q2_n (by omega), q2_n (by omega)]; exact (h.2.2.2.1 f9 t9 hf9 ht9).2.2 j9 x9 hx
theorem q_hasI {m : Int32} {j : Nat} : (m >>> (nI j &&& 31)) &&& 1 = 1 ↔ q_has m j = true := by simp [q_has]
/-- how many bits of a set lie below m -/
def q_cnt (x : Int32) : Nat → Int32
  | 0 => 0
  | j + 1 => q_cnt x j + ((x >>> (nI j &&& 31)) &&& 1)
set_option maxHeartbeats 4000000 in
set_option maxRecDepth 100000 in
/-- X5_isBefore -/
theorem c_X5_isBefore (l : Launch) (dd : va_G) (ga : Nat → ClassId) (x0 x1 x2 x3 : Int32) : Met l yX5_isBefore wsX5_isBefore ({ frames := 0, cells := 0, slots := 0, locals := 0 }) (qPc dd ga [.int x0, .int x1, .int x2, .int x3] (fun H => True)) (qQi (fun r _ => r = if x0 < x2 ∨ x0 = x2 ∧ x1 < x3 then 1 else 0) (fun _ => False)) 0 0 (fun _ => False) := by
  refine Met.ofW (cc := cX5_isBefore) (maxL := 4) (ret := (some .boolean)) (by decide) rfl ?_
  intro p e s m args below meth c s₁ B hml hv
  obtain ⟨rfl, hP, hK⟩ := hv
  have hx := B.exec
  have hb := B.bytes
  have hr := B.returns
  have hts := atoms_spec (ws := wsX5_isBefore) B.pre
  have hown : s.vm.findClass RX5 = some m.cls := findClass_of_methodNamed B.named
  have hlocks := B.notSynchronized
  have hS : qS (fun _ => False) s.heap s.heap [] := qS.rf
  have hl := lv_entry ([.int x0, .int x1, .int x2, .int x3]) (n := 4) (Nat.le_of_ble_eq_true rfl)
  rw [lg_entry_eq]
  generalize (lg_sl ([.int x0, .int x1, .int x2, .int x3]) ++ List.replicate (4 - (lg_sl ([.int x0, .int x1, .int x2, .int x3])).length) Slot.unset).toArray = ls at hl ⊢
  refine lv_iload_n hx hb dX5_isBefore_0 rfl (lv_at hl 0 rfl) ?_
  refine lv_iload_n hx hb dX5_isBefore_1 rfl (lv_at hl 2 rfl) ?_
  refine lv_icmp_lt (tgt := 15) hx hb dX5_isBefore_2 (by decide) (fun c_2 => ?_) (fun c_2 => ?_)
  · refine lv_iconst (v := 1) hx hb dX5_isBefore_15 (by decide) ?_
    refine lv_goto (tgt := 20) hx hb dX5_isBefore_16 (by decide) ?_
    exact q_zret hx hb hr hlocks rfl hS (by first | rw [if_pos (Or.inl (by assumption))] | (rw [if_pos]; exact Or.inr ⟨by assumption, Int32.not_le.mp (by assumption)⟩)) dX5_isBefore_20
  · refine lv_iload_n hx hb dX5_isBefore_5 rfl (lv_at hl 0 rfl) ?_
    refine lv_iload_n hx hb dX5_isBefore_6 rfl (lv_at hl 2 rfl) ?_
    refine lv_icmp_ne (tgt := 19) hx hb dX5_isBefore_7 (by decide) (fun c_7 => ?_) (fun c_7 => ?_)
    · refine lv_iconst (v := 0) hx hb dX5_isBefore_19 (by decide) ?_
      exact q_zret hx hb hr hlocks rfl hS (by rw [if_neg]; rintro (h | ⟨h1, h2⟩) <;> first | contradiction | exact absurd h2 (Int32.not_lt.mpr (by assumption))) dX5_isBefore_20
    · refine lv_iload_n hx hb dX5_isBefore_10 rfl (lv_at hl 1 rfl) ?_
      refine lv_iload_n hx hb dX5_isBefore_11 rfl (lv_at hl 3 rfl) ?_
      refine lv_icmp_ge (tgt := 19) hx hb dX5_isBefore_12 (by decide) (fun c_12 => ?_) (fun c_12 => ?_)
      · refine lv_iconst (v := 0) hx hb dX5_isBefore_19 (by decide) ?_
        exact q_zret hx hb hr hlocks rfl hS (by rw [if_neg]; rintro (h | ⟨h1, h2⟩) <;> first | contradiction | exact absurd h2 (Int32.not_lt.mpr (by assumption))) dX5_isBefore_20
      · refine lv_iconst (v := 1) hx hb dX5_isBefore_15 (by decide) ?_
        refine lv_goto (tgt := 20) hx hb dX5_isBefore_16 (by decide) ?_
        exact q_zret hx hb hr hlocks rfl hS (by first | rw [if_pos (Or.inl (by assumption))] | (rw [if_pos]; exact Or.inr ⟨by assumption, Int32.not_le.mp (by assumption)⟩)) dX5_isBefore_20
set_option maxHeartbeats 4000000 in
set_option maxRecDepth 100000 in
/-- X5_isNode -/
theorem c_X5_isNode (l : Launch) (dd : va_G) (ga : Nat → ClassId) (n k : Nat) (ar : Nat → Nat) (σ : qSt) (hsq : qSq n k) (hL : qLr ar) (x : Int32) : Met l yX5_isNode wsX5_isNode ({ frames := 0, cells := 0, slots := 0, locals := 0 }) (qPc dd ga [.ref (ar 0), .int x] (fun H => qR dd ga n k ar σ H)) (qQi (fun v _ => v = if q_node n x = true then 1 else 0) (fun _ => False)) 0 0 (fun _ => False) := by
  refine Met.ofW (cc := cX5_isNode) (maxL := 2) (ret := (some .boolean)) (by decide) rfl ?_
  intro p e s m args below meth c s₁ B hml hv
  obtain ⟨rfl, ⟨ρ, hRp, hW⟩, hK⟩ := hv
  have hx := B.exec
  have hb := B.bytes
  have hr := B.returns
  have hts := atoms_spec (ws := wsX5_isNode) B.pre
  have hown : s.vm.findClass RX5 = some m.cls := findClass_of_methodNamed B.named
  have hlocks := B.notSynchronized
  have hS : qS (fun _ => False) s.heap s.heap [] := qS.rf
  have hl := lv_entry ([.ref (ar 0), .int x]) (n := 2) (Nat.le_of_ble_eq_true rfl)
  rw [lg_entry_eq]
  generalize (lg_sl ([.ref (ar 0), .int x]) ++ List.replicate (2 - (lg_sl ([.ref (ar 0), .int x])).length) Slot.unset).toArray = ls at hl ⊢
  have hin5 : ∀ w ∈ wsX50, w ∈ wsX5_isNode := by decide +kernel
  have hn1 := hsq.n.1
  have hn16 := hsq.n.2
  refine lv_iload_n hx hb dX5_isNode_0 rfl (lv_at hl 1 rfl) ?_
  refine lv_if_lt (tgt := 16) hx hb dX5_isNode_1 (by decide) (fun c_1 => ?_) (fun c_1 => ?_)
  · refine lv_iconst (v := 0) hx hb dX5_isNode_16 (by decide) ?_
    exact q_zret hx hb hr hlocks rfl hS (by simp_all [q_node]) dX5_isNode_17
  · refine lv_iload_n hx hb dX5_isNode_4 rfl (lv_at hl 1 rfl) ?_
    refine lv_aload_n hx hb dX5_isNode_5 rfl (lv_at hl 0 rfl) ?_
    refine qr_get (ci := 5) (C := RX5) (T := TX5) (N := 19) hx hb hts hin5 hown hK hW.self rfl 1 (by decide) (hts (.fieldLink RX5 63 "QuorumLockModel" "n" "I") (by decide +kernel)) rfl dX5_isNode_6 ?_
    refine lv_icmp_ge (tgt := 16) hx hb dX5_isNode_9 (by decide) (fun c_9 => ?_) (fun c_9 => ?_)
    · refine lv_iconst (v := 0) hx hb dX5_isNode_16 (by decide) ?_
      exact q_zret hx hb hr hlocks rfl hS (by simp_all [q_node]) dX5_isNode_17
    · refine lv_iconst (v := 1) hx hb dX5_isNode_12 (by decide) ?_
      refine lv_goto (tgt := 17) hx hb dX5_isNode_13 (by decide) ?_
      exact q_zret hx hb hr hlocks rfl hS (by simp_all [q_node]) dX5_isNode_17
set_option maxHeartbeats 4000000 in
set_option maxRecDepth 100000 in
/-- X5_quorum -/
theorem c_X5_quorum (l : Launch) (dd : va_G) (ga : Nat → ClassId) (n k : Nat) (ar : Nat → Nat) (σ : qSt) (hsq : qSq n k) (hL : qLr ar) (i : Nat) (hi : i < n) : Met l yX5_quorum wsX5_quorum ({ frames := 0, cells := 0, slots := 0, locals := 0 }) (qPc dd ga [.ref (ar 0), .int (nI i)] (fun H => qR dd ga n k ar σ H)) (qQi (fun v _ => v = q_quo k i n) (fun _ => False)) 0 0 (fun _ => False) := by
  refine Met.ofW (cc := cX5_quorum) (maxL := 4) (ret := (some .int)) (by decide) rfl ?_
  intro p e s m args below meth c s₁ B hml hv
  obtain ⟨rfl, ⟨ρ, hRp, hW⟩, hK⟩ := hv
  have hx := B.exec
  have hb := B.bytes
  have hr := B.returns
  have hts := atoms_spec (ws := wsX5_quorum) B.pre
  have hown : s.vm.findClass RX5 = some m.cls := findClass_of_methodNamed B.named
  have hlocks := B.notSynchronized
  have hS : qS (fun _ => False) s.heap s.heap [] := qS.rf
  have hl := lv_entry ([.ref (ar 0), .int (nI i)]) (n := 4) (Nat.le_of_ble_eq_true rfl)
  rw [lg_entry_eq]
  generalize (lg_sl ([.ref (ar 0), .int (nI i)]) ++ List.replicate (4 - (lg_sl ([.ref (ar 0), .int (nI i)])).length) Slot.unset).toArray = ls at hl ⊢
  have hin5 : ∀ w ∈ wsX50, w ∈ wsX5_quorum := by decide +kernel
  have hn1 := hsq.n.1
  have hn16 := hsq.n.2
  have hk1 := hsq.2.1
  have hk4 := hsq.2.2
  have hloop : ∀ (c9 j9 : Nat) (ls : Array Slot), j9 + c9 = n → lv_has ls 4 [(3, .int (nI j9)), (2, .int (q_quo k i j9)), (0, .ref (ar 0)), (1, .int (nI i))] → W p l e (headSpec wsX5_quorum ({ frames := 0, cells := 0, slots := 0, locals := 0 })).room s m (([.ref (ar 0), .int (nI i)] : List Value).toArray) below meth c s.heap [] 0 0 (MQ below (qQi (fun v _ => v = q_quo k i n) (fun _ => False)) (([.ref (ar 0), .int (nI i)] : List Value).toArray) s 0 0 (fun _ => False)) (F0 m 4 ls []) := by
    intro c9
    induction c9 with
    | zero =>
      intro j9 ls hc hl
      refine lv_iload_n hx hb dX5_quorum_4 rfl (lv_at hl 0 rfl) ?_
      refine lv_aload_n hx hb dX5_quorum_5 rfl (lv_at hl 2 rfl) ?_
      refine qr_get (ci := 5) (C := RX5) (T := TX5) (N := 19) hx hb hts hin5 hown hK hW.self rfl 1 (by decide) (hts (.fieldLink RX5 63 "QuorumLockModel" "n" "I") (by decide +kernel)) rfl dX5_quorum_6 ?_
      refine lv_icmp_ge (tgt := 58) hx hb dX5_quorum_9 (by decide) (fun c_9 => ?_) (fun c_9 => absurd (nI_le (show n ≤ j9 by omega) (by omega)) c_9)
      refine lv_iload_n hx hb dX5_quorum_58 rfl (lv_at hl 1 rfl) ?_
      exact q_iret hx hb hr hlocks hS (by rw [show j9 = n by omega]) dX5_quorum_59
    | succ c9 ih =>
      intro j9 ls hc hl
      refine lv_iload_n hx hb dX5_quorum_4 rfl (lv_at hl 0 rfl) ?_
      refine lv_aload_n hx hb dX5_quorum_5 rfl (lv_at hl 2 rfl) ?_
      refine qr_get (ci := 5) (C := RX5) (T := TX5) (N := 19) hx hb hts hin5 hown hK hW.self rfl 1 (by decide) (hts (.fieldLink RX5 63 "QuorumLockModel" "n" "I") (by decide +kernel)) rfl dX5_quorum_6 ?_
      refine lv_icmp_ge (tgt := 58) hx hb dX5_quorum_9 (by decide) (fun c_9 => absurd c_9 (nI_ge (by omega) (by omega))) (fun c_9 => ?_)
      refine lv_iload_n hx hb dX5_quorum_12 rfl (lv_at hl 1 rfl) ?_
      refine lv_iload_n hx hb dX5_quorum_13 rfl (lv_at hl 0 rfl) ?_
      refine lv_aload_n hx hb dX5_quorum_14 rfl (lv_at hl 2 rfl) ?_
      refine qr_get (ci := 5) (C := RX5) (T := TX5) (N := 19) hx hb hts hin5 hown hK hW.self rfl 0 (by decide) (hts (.fieldLink RX5 59 "QuorumLockModel" "k" "I") (by decide +kernel)) rfl dX5_quorum_15 ?_
      refine lv_idiv hx hb dX5_quorum_18 (nI_ne0 (by omega) (by omega)) ?_
      refine q_ti (y := nI (j9 / k)) (pk_div (by omega) (by omega) (by omega)) ?_
      refine lv_iload_n hx hb dX5_quorum_19 rfl (lv_at hl 3 rfl) ?_
      refine lv_aload_n hx hb dX5_quorum_20 rfl (lv_at hl 2 rfl) ?_
      refine qr_get (ci := 5) (C := RX5) (T := TX5) (N := 19) hx hb hts hin5 hown hK hW.self rfl 0 (by decide) (hts (.fieldLink RX5 59 "QuorumLockModel" "k" "I") (by decide +kernel)) rfl dX5_quorum_21 ?_
      refine lv_idiv hx hb dX5_quorum_24 (nI_ne0 (by omega) (by omega)) ?_
      refine q_ti (y := nI (i / k)) (pk_div (by omega) (by omega) (by omega)) ?_
      have hd1 : j9 / k ≤ j9 := Nat.div_le_self _ _
      have hd2 : i / k ≤ i := Nat.div_le_self _ _
      have hd3 : j9 % k < k := Nat.mod_lt _ (by omega)
      have hd4 : i % k < k := Nat.mod_lt _ (by omega)
      refine lv_icmp_eq (tgt := 43) hx hb dX5_quorum_25 (by decide) (fun c_25 => ?_) (fun c_25 => ?_)
      · have hq9 : j9 / k = i / k ∨ j9 % k = i % k := Or.inl ((nI_eq (by omega) (by omega)).mp c_25)
        refine lv_iconst (v := 1) hx hb dX5_quorum_43 (by decide) ?_
        refine lv_iload_n hx hb dX5_quorum_44 rfl (lv_at hl 0 rfl) ?_
        refine lv_ishl hx hb dX5_quorum_45 ?_
        refine lv_goto (tgt := 50) hx hb dX5_quorum_46 (by decide) ?_
        refine lv_ior hx hb dX5_quorum_50 ?_
        refine q_ti (y := q_quo k i (j9 + 1)) (by rw [q_quo, if_pos hq9]; rfl) ?_
        refine lv_istore_n (lv' := [(2, .int (q_quo k i (j9 + 1))), (3, .int (nI j9)), (0, .ref (ar 0)), (1, .int (nI i))]) hx hb dX5_quorum_51 rfl hl (by decide) rfl (fun ls hl => ?_)
        refine lv_iinc (v := nI (j9 + 1)) (lv' := [(3, .int (nI (j9 + 1))), (2, .int (q_quo k i (j9 + 1))), (0, .ref (ar 0)), (1, .int (nI i))]) hx hb dX5_quorum_52 hl (k := 1) rfl (nI_1 _) (by decide) rfl (fun ls hl => ?_)
        refine lv_goto (tgt := 4) hx hb dX5_quorum_55 (by decide) ?_
        exact ih (j9 + 1) ls (by omega) (lv_sub hl [0, 1, 2, 3] rfl)
      · refine lv_iload_n hx hb dX5_quorum_28 rfl (lv_at hl 0 rfl) ?_
        refine lv_aload_n hx hb dX5_quorum_29 rfl (lv_at hl 2 rfl) ?_
        refine qr_get (ci := 5) (C := RX5) (T := TX5) (N := 19) hx hb hts hin5 hown hK hW.self rfl 0 (by decide) (hts (.fieldLink RX5 59 "QuorumLockModel" "k" "I") (by decide +kernel)) rfl dX5_quorum_30 ?_
        refine lv_irem hx hb dX5_quorum_33 (nI_ne0 (by omega) (by omega)) ?_
        refine q_ti (y := nI (j9 % k)) (pk_rem (by omega) (by omega) (by omega)) ?_
        refine lv_iload_n hx hb dX5_quorum_34 rfl (lv_at hl 3 rfl) ?_
        refine lv_aload_n hx hb dX5_quorum_35 rfl (lv_at hl 2 rfl) ?_
        refine qr_get (ci := 5) (C := RX5) (T := TX5) (N := 19) hx hb hts hin5 hown hK hW.self rfl 0 (by decide) (hts (.fieldLink RX5 59 "QuorumLockModel" "k" "I") (by decide +kernel)) rfl dX5_quorum_36 ?_
        refine lv_irem hx hb dX5_quorum_39 (nI_ne0 (by omega) (by omega)) ?_
        refine q_ti (y := nI (i % k)) (pk_rem (by omega) (by omega) (by omega)) ?_
        refine lv_icmp_ne (tgt := 49) hx hb dX5_quorum_40 (by decide) (fun c_40 => ?_) (fun c_40 => ?_)
        · have hq9 : ¬ (j9 / k = i / k ∨ j9 % k = i % k) := fun h => h.elim (fun h => c_25 (by rw [h])) (fun h => c_40 (by rw [h]))
          refine lv_iconst (v := 0) hx hb dX5_quorum_49 (by decide) ?_
          refine lv_ior hx hb dX5_quorum_50 ?_
          refine q_ti (y := q_quo k i (j9 + 1)) (by rw [q_quo, if_neg hq9]) ?_
          refine lv_istore_n (lv' := [(2, .int (q_quo k i (j9 + 1))), (3, .int (nI j9)), (0, .ref (ar 0)), (1, .int (nI i))]) hx hb dX5_quorum_51 rfl hl (by decide) rfl (fun ls hl => ?_)
          refine lv_iinc (v := nI (j9 + 1)) (lv' := [(3, .int (nI (j9 + 1))), (2, .int (q_quo k i (j9 + 1))), (0, .ref (ar 0)), (1, .int (nI i))]) hx hb dX5_quorum_52 hl (k := 1) rfl (nI_1 _) (by decide) rfl (fun ls hl => ?_)
          refine lv_goto (tgt := 4) hx hb dX5_quorum_55 (by decide) ?_
          exact ih (j9 + 1) ls (by omega) (lv_sub hl [0, 1, 2, 3] rfl)
        · have hq9 : j9 / k = i / k ∨ j9 % k = i % k := Or.inr ((nI_eq (by omega) (by omega)).mp c_40)
          refine lv_iconst (v := 1) hx hb dX5_quorum_43 (by decide) ?_
          refine lv_iload_n hx hb dX5_quorum_44 rfl (lv_at hl 0 rfl) ?_
          refine lv_ishl hx hb dX5_quorum_45 ?_
          refine lv_goto (tgt := 50) hx hb dX5_quorum_46 (by decide) ?_
          refine lv_ior hx hb dX5_quorum_50 ?_
          refine q_ti (y := q_quo k i (j9 + 1)) (by rw [q_quo, if_pos hq9]; rfl) ?_
          refine lv_istore_n (lv' := [(2, .int (q_quo k i (j9 + 1))), (3, .int (nI j9)), (0, .ref (ar 0)), (1, .int (nI i))]) hx hb dX5_quorum_51 rfl hl (by decide) rfl (fun ls hl => ?_)
          refine lv_iinc (v := nI (j9 + 1)) (lv' := [(3, .int (nI (j9 + 1))), (2, .int (q_quo k i (j9 + 1))), (0, .ref (ar 0)), (1, .int (nI i))]) hx hb dX5_quorum_52 hl (k := 1) rfl (nI_1 _) (by decide) rfl (fun ls hl => ?_)
          refine lv_goto (tgt := 4) hx hb dX5_quorum_55 (by decide) ?_
          exact ih (j9 + 1) ls (by omega) (lv_sub hl [0, 1, 2, 3] rfl)
  refine lv_iconst (v := 0) hx hb dX5_quorum_0 (by decide) ?_
  refine lv_istore_n (lv' := [(2, .int 0), (0, .ref (ar 0)), (1, .int (nI i))]) hx hb dX5_quorum_1 rfl hl (by decide) rfl (fun ls hl => ?_)
  refine lv_iconst (v := nI 0) hx hb dX5_quorum_2 (by decide) ?_
  refine lv_istore_n (lv' := [(3, .int (nI 0)), (2, .int 0), (0, .ref (ar 0)), (1, .int (nI i))]) hx hb dX5_quorum_3 rfl hl (by decide) rfl (fun ls hl => ?_)
  exact hloop n 0 ls (by omega) (lv_sub hl [0, 1, 2, 3] rfl)
set_option maxHeartbeats 4000000 in
set_option maxRecDepth 100000 in
/-- X5_count -/
theorem c_X5_count (l : Launch) (dd : va_G) (ga : Nat → ClassId) (n k : Nat) (ar : Nat → Nat) (σ : qSt) (hsq : qSq n k) (hL : qLr ar) (x : Int32) : Met l yX5_count wsX5_count ({ frames := 0, cells := 0, slots := 0, locals := 0 }) (qPc dd ga [.ref (ar 0), .int x] (fun H => qR dd ga n k ar σ H)) (qQi (fun v _ => v = q_cnt x n) (fun _ => False)) 0 0 (fun _ => False) := by
  refine Met.ofW (cc := cX5_count) (maxL := 4) (ret := (some .int)) (by decide) rfl ?_
  intro p e s m args below meth c s₁ B hml hv
  obtain ⟨rfl, ⟨ρ, hRp, hW⟩, hK⟩ := hv
  have hx := B.exec
  have hb := B.bytes
  have hr := B.returns
  have hts := atoms_spec (ws := wsX5_count) B.pre
  have hown : s.vm.findClass RX5 = some m.cls := findClass_of_methodNamed B.named
  have hlocks := B.notSynchronized
  have hS : qS (fun _ => False) s.heap s.heap [] := qS.rf
  have hl := lv_entry ([.ref (ar 0), .int x]) (n := 4) (Nat.le_of_ble_eq_true rfl)
  rw [lg_entry_eq]
  generalize (lg_sl ([.ref (ar 0), .int x]) ++ List.replicate (4 - (lg_sl ([.ref (ar 0), .int x])).length) Slot.unset).toArray = ls at hl ⊢
  have hin5 : ∀ w ∈ wsX50, w ∈ wsX5_count := by decide +kernel
  have hn1 := hsq.n.1
  have hn16 := hsq.n.2
  have hloop : ∀ (c9 j9 : Nat) (ls : Array Slot), j9 + c9 = n → lv_has ls 4 [(3, .int (nI j9)), (2, .int (q_cnt x j9)), (0, .ref (ar 0)), (1, .int x)] → W p l e (headSpec wsX5_count ({ frames := 0, cells := 0, slots := 0, locals := 0 })).room s m (([.ref (ar 0), .int x] : List Value).toArray) below meth c s.heap [] 0 0 (MQ below (qQi (fun v _ => v = q_cnt x n) (fun _ => False)) (([.ref (ar 0), .int x] : List Value).toArray) s 0 0 (fun _ => False)) (F0 m 4 ls []) := by
    intro c9
    induction c9 with
    | zero =>
      intro j9 ls hc hl
      refine lv_iload_n hx hb dX5_count_4 rfl (lv_at hl 0 rfl) ?_
      refine lv_aload_n hx hb dX5_count_5 rfl (lv_at hl 2 rfl) ?_
      refine qr_get (ci := 5) (C := RX5) (T := TX5) (N := 19) hx hb hts hin5 hown hK hW.self rfl 1 (by decide) (hts (.fieldLink RX5 63 "QuorumLockModel" "n" "I") (by decide +kernel)) rfl dX5_count_6 ?_
      refine lv_icmp_ge (tgt := 26) hx hb dX5_count_9 (by decide) (fun c_9 => ?_) (fun c_9 => absurd (nI_le (show n ≤ j9 by omega) (by omega)) c_9)
      refine lv_iload_n hx hb dX5_count_26 rfl (lv_at hl 1 rfl) ?_
      exact q_iret hx hb hr hlocks hS (by rw [show j9 = n by omega]) dX5_count_27
    | succ c9 ih =>
      intro j9 ls hc hl
      refine lv_iload_n hx hb dX5_count_4 rfl (lv_at hl 0 rfl) ?_
      refine lv_aload_n hx hb dX5_count_5 rfl (lv_at hl 2 rfl) ?_
      refine qr_get (ci := 5) (C := RX5) (T := TX5) (N := 19) hx hb hts hin5 hown hK hW.self rfl 1 (by decide) (hts (.fieldLink RX5 63 "QuorumLockModel" "n" "I") (by decide +kernel)) rfl dX5_count_6 ?_
      refine lv_icmp_ge (tgt := 26) hx hb dX5_count_9 (by decide) (fun c_9 => absurd c_9 (nI_ge (by omega) (by omega))) (fun c_9 => ?_)
      refine lv_iload_n hx hb dX5_count_12 rfl (lv_at hl 1 rfl) ?_
      refine lv_iload_n hx hb dX5_count_13 rfl (lv_at hl 3 rfl) ?_
      refine lv_iload_n hx hb dX5_count_14 rfl (lv_at hl 0 rfl) ?_
      refine lv_ishr hx hb dX5_count_15 ?_
      refine lv_iconst (v := 1) hx hb dX5_count_16 (by decide) ?_
      refine lv_iand hx hb dX5_count_17 ?_
      refine lv_iadd hx hb dX5_count_18 ?_
      refine q_ti (y := q_cnt x (j9 + 1)) (rfl) ?_
      refine lv_istore_n (lv' := [(2, .int (q_cnt x (j9 + 1))), (3, .int (nI j9)), (0, .ref (ar 0)), (1, .int x)]) hx hb dX5_count_19 rfl hl (by decide) rfl (fun ls hl => ?_)
      refine lv_iinc (v := nI (j9 + 1)) (lv' := [(3, .int (nI (j9 + 1))), (2, .int (q_cnt x (j9 + 1))), (0, .ref (ar 0)), (1, .int x)]) hx hb dX5_count_20 hl (k := 1) rfl (nI_1 _) (by decide) rfl (fun ls hl => ?_)
      refine lv_goto (tgt := 4) hx hb dX5_count_23 (by decide) ?_
      exact ih (j9 + 1) ls (by omega) (lv_sub hl [0, 1, 2, 3] rfl)
  refine lv_iconst (v := 0) hx hb dX5_count_0 (by decide) ?_
  refine lv_istore_n (lv' := [(2, .int 0), (0, .ref (ar 0)), (1, .int x)]) hx hb dX5_count_1 rfl hl (by decide) rfl (fun ls hl => ?_)
  refine lv_iconst (v := nI 0) hx hb dX5_count_2 (by decide) ?_
  refine lv_istore_n (lv' := [(3, .int (nI 0)), (2, .int 0), (0, .ref (ar 0)), (1, .int x)]) hx hb dX5_count_3 rfl hl (by decide) rfl (fun ls hl => ?_)
  exact hloop n 0 ls (by omega) (lv_sub hl [0, 1, 2, 3] rfl)
set_option maxHeartbeats 4000000 in
set_option maxRecDepth 100000 in
/-- X5_send -/
theorem c_X5_send (l : Launch) (dd : va_G) (ga : Nat → ClassId) (n k : Nat) (ar : Nat → Nat) (σ : qSt) (hsq : qSq n k) (hL : qLr ar) (f t : Nat) (hf : f < n) (ht : t < n) (x y : Int32) (hroom : (σ.2.2.2.1 f t).length ≤ 8) : Met l yX5_send wsX5_send ({ frames := 0, cells := 0, slots := 0, locals := 0 }) (qPc dd ga [.ref (ar 0), .int (nI f), .int (nI t), .int x, .int y] (fun H => qR dd ga n k ar σ H)) (qQv (fun H => qR dd ga n k ar (s_send σ f t x y) H) (qAr ar)) 0 0 (qAr ar) := by
  refine Met.ofW (cc := cX5_send) (maxL := 7) (ret := none) (by decide) rfl ?_
  intro p e s m args below meth c s₁ B hml hv
  obtain ⟨rfl, ⟨ρ, hRp, hW⟩, hK⟩ := hv
  have hx := B.exec
  have hb := B.bytes
  have hr := B.returns
  have hts := atoms_spec (ws := wsX5_send) B.pre
  have hown : s.vm.findClass RX5 = some m.cls := findClass_of_methodNamed B.named
  have hlocks := B.notSynchronized
  have hS : qS (qAr ar) s.heap s.heap [] := qS.rf
  have hl := lv_entry ([.ref (ar 0), .int (nI f), .int (nI t), .int x, .int y]) (n := 7) (Nat.le_of_ble_eq_true rfl)
  rw [lg_entry_eq]
  generalize (lg_sl ([.ref (ar 0), .int (nI f), .int (nI t), .int x, .int y]) ++ List.replicate (7 - (lg_sl ([.ref (ar 0), .int (nI f), .int (nI t), .int x, .int y])).length) Slot.unset).toArray = ls at hl ⊢
  have hin5 : ∀ w ∈ wsX50, w ∈ wsX5_send := by decide +kernel
  have hn1 := hsq.n.1
  have hn16 := hsq.n.2
  have hw9 := hRp.2.2.2.1 f t (by omega) (by omega)
  refine lv_bipush (v := nI 16) hx hb dX5_send_0 (by decide) ?_
  refine lv_iload_n hx hb dX5_send_2 rfl (lv_at hl 1 rfl) ?_
  refine lv_imul hx hb dX5_send_3 ?_
  refine q_ti (y := nI (16 * f)) (pk_mul _ _) ?_
  refine lv_iload_n hx hb dX5_send_4 rfl (lv_at hl 2 rfl) ?_
  refine lv_iadd hx hb dX5_send_5 ?_
  refine q_ti (y := nI (16 * f + t)) (nI_add _ _) ?_
  refine lv_istore (lv' := [(5, .int (nI (16 * f + t))), (0, .ref (ar 0)), (1, .int (nI f)), (2, .int (nI t)), (3, .int x), (4, .int y)]) hx hb dX5_send_6 hl (by decide) rfl (fun ls hl => ?_)
  refine lv_bipush (v := nI 64) hx hb dX5_send_8 (by decide) ?_
  refine lv_iload hx hb dX5_send_10 (lv_at hl 0 rfl) ?_
  refine lv_imul hx hb dX5_send_12 ?_
  refine q_ti (y := nI (64 * (16 * f + t))) (pk_mul _ _) ?_
  refine lv_aload_n hx hb dX5_send_13 rfl (lv_at hl 1 rfl) ?_
  refine qr_get (ci := 5) (C := RX5) (T := TX5) (N := 19) hx hb hts hin5 hown hK hW.self rfl 14 (by decide) (hts (.fieldLink RX5 47 "QuorumLockModel" "lying" "[I") (by decide +kernel)) rfl dX5_send_14 ?_
  refine lv_iload hx hb dX5_send_17 (lv_at hl 0 rfl) ?_
  refine qr_iald (v := (nI (σ.2.2.2.1 f t).length)) hx hb hK hW.a13 (16 * f + t) (by omega) (by omega) rfl hw9.1 dX5_send_19 ?_
  refine lv_iadd hx hb dX5_send_20 ?_
  refine q_ti (y := nI (64 * (16 * f + t) + (σ.2.2.2.1 f t).length)) (nI_add _ _) ?_
  refine lv_istore (lv' := [(6, .int (nI (64 * (16 * f + t) + (σ.2.2.2.1 f t).length))), (5, .int (nI (16 * f + t))), (0, .ref (ar 0)), (1, .int (nI f)), (2, .int (nI t)), (3, .int x), (4, .int y)]) hx hb dX5_send_21 hl (by decide) rfl (fun ls hl => ?_)
  refine lv_aload_n hx hb dX5_send_23 rfl (lv_at hl 2 rfl) ?_
  refine qr_get (ci := 5) (C := RX5) (T := TX5) (N := 19) hx hb hts hin5 hown hK hW.self rfl 15 (by decide) (hts (.fieldLink RX5 50 "QuorumLockModel" "kinds" "[I") (by decide +kernel)) rfl dX5_send_24 ?_
  refine lv_iload hx hb dX5_send_27 (lv_at hl 0 rfl) ?_
  refine lv_iload_n hx hb dX5_send_29 rfl (lv_at hl 5 rfl) ?_
  refine qr_iast hx hb hK hW.a14 hS (⟨14, by decide, rfl⟩) (64 * (16 * f + t) + (σ.2.2.2.1 f t).length) (by omega) (by omega) rfl dX5_send_30 (fun H locs hz9 ho9 hat9 hS => ?_)
  have hW := hW.put hL 14 (64 * (16 * f + t) + (σ.2.2.2.1 f t).length) x (by decide) (by decide) ho9 hat9
  refine lv_aload_n hx hb dX5_send_31 rfl (lv_at hl 2 rfl) ?_
  refine qr_get (ci := 5) (C := RX5) (T := TX5) (N := 19) hx hb hts hin5 hown hK hW.self rfl 16 (by decide) (hts (.fieldLink RX5 53 "QuorumLockModel" "times" "[I") (by decide +kernel)) rfl dX5_send_32 ?_
  refine lv_iload hx hb dX5_send_35 (lv_at hl 0 rfl) ?_
  refine lv_iload hx hb dX5_send_37 (lv_at hl 6 rfl) ?_
  refine qr_iast hx hb hK hW.a15 hS (⟨15, by decide, rfl⟩) (64 * (16 * f + t) + (σ.2.2.2.1 f t).length) (by omega) (by omega) rfl dX5_send_39 (fun H locs hz9 ho9 hat9 hS => ?_)
  have hW := hW.put hL 15 (64 * (16 * f + t) + (σ.2.2.2.1 f t).length) y (by decide) (by decide) ho9 hat9
  refine lv_aload_n hx hb dX5_send_40 rfl (lv_at hl 2 rfl) ?_
  refine qr_get (ci := 5) (C := RX5) (T := TX5) (N := 19) hx hb hts hin5 hown hK hW.self rfl 17 (by decide) (hts (.fieldLink RX5 56 "QuorumLockModel" "clocks" "[I") (by decide +kernel)) rfl dX5_send_41 ?_
  refine lv_iload hx hb dX5_send_44 (lv_at hl 0 rfl) ?_
  refine lv_aload_n hx hb dX5_send_46 rfl (lv_at hl 2 rfl) ?_
  refine qr_get (ci := 5) (C := RX5) (T := TX5) (N := 19) hx hb hts hin5 hown hK hW.self rfl 2 (by decide) (hts (.fieldLink RX5 7 "QuorumLockModel" "clock" "[I") (by decide +kernel)) rfl dX5_send_47 ?_
  refine lv_iload_n hx hb dX5_send_50 rfl (lv_at hl 3 rfl) ?_
  refine qr_iald (v := (σ.1 0 f)) hx hb hK hW.a1 f (by omega) (by omega) rfl (by simp [q2]; exact hRp.t 0 f (by decide) hf) dX5_send_51 ?_
  refine qr_iast hx hb hK hW.a16 hS (⟨16, by decide, rfl⟩) (64 * (16 * f + t) + (σ.2.2.2.1 f t).length) (by omega) (by omega) rfl dX5_send_52 (fun H locs hz9 ho9 hat9 hS => ?_)
  have hW := hW.put hL 16 (64 * (16 * f + t) + (σ.2.2.2.1 f t).length) (σ.1 0 f) (by decide) (by decide) ho9 hat9
  refine lv_aload_n hx hb dX5_send_53 rfl (lv_at hl 2 rfl) ?_
  refine qr_get (ci := 5) (C := RX5) (T := TX5) (N := 19) hx hb hts hin5 hown hK hW.self rfl 14 (by decide) (hts (.fieldLink RX5 47 "QuorumLockModel" "lying" "[I") (by decide +kernel)) rfl dX5_send_54 ?_
  refine lv_iload hx hb dX5_send_57 (lv_at hl 1 rfl) ?_
  refine lv_dup2_11 hx hb dX5_send_59 rfl rfl ?_
  refine qr_iald (v := (nI (σ.2.2.2.1 f t).length)) hx hb hK hW.a13 (16 * f + t) (by omega) (by omega) rfl (by simp [q2]; exact hw9.1) dX5_send_60 ?_
  refine lv_iconst (v := 1) hx hb dX5_send_61 (by decide) ?_
  refine lv_iadd hx hb dX5_send_62 ?_
  refine q_ti (y := nI ((σ.2.2.2.1 f t).length + 1)) (nI_1 _) ?_
  refine qr_iast hx hb hK hW.a13 hS (⟨13, by decide, rfl⟩) (16 * f + t) (by omega) (by omega) rfl dX5_send_63 (fun H locs hz9 ho9 hat9 hS => ?_)
  have hW := hW.put hL 13 (16 * f + t) (nI ((σ.2.2.2.1 f t).length + 1)) (by decide) (by decide) ho9 hat9
  exact q_vret hx hb hr hlocks hS (⟨_, hRp.send hn16 hf ht x y hroom, hW⟩) dX5_send_64
set_option maxHeartbeats 4000000 in
set_option maxRecDepth 100000 in
/-- X5_sendAll -/
theorem c_X5_sendAll (l : Launch) (dd : va_G) (ga : Nat → ClassId) (n k : Nat) (ar : Nat → Nat) (σ : qSt) (hsq : qSq n k) (hL : qLr ar) (i : Nat) (hi : i < n) (x y : Int32) (hroom : ∀ t : Nat, t < n → (σ.2.2.2.1 i t).length ≤ 6) : Met l yX5_sendAll wsX5_sendAll ({ frames := 1, cells := 0, slots := 0, locals := 26 }) (qPc dd ga [.ref (ar 0), .int (nI i), .int x, .int y] (fun H => qR dd ga n k ar σ H)) (qQv (fun H => qR dd ga n k ar (q_all i (q_quo k i n) x y n 0 σ) H) (qAr ar)) 0 0 (qAr ar) := by
  refine Met.ofW (cc := cX5_sendAll) (maxL := 5) (ret := none) (by decide) rfl ?_
  intro p e s m args below meth c s₁ B hml hv
  obtain ⟨rfl, ⟨ρ, hRp, hW⟩, hK⟩ := hv
  have hx := B.exec
  have hb := B.bytes
  have hr := B.returns
  have hts := atoms_spec (ws := wsX5_sendAll) B.pre
  have hown : s.vm.findClass RX5 = some m.cls := findClass_of_methodNamed B.named
  have hlocks := B.notSynchronized
  have hS : qS (qAr ar) s.heap s.heap [] := qS.rf
  have hl := lv_entry ([.ref (ar 0), .int (nI i), .int x, .int y]) (n := 5) (Nat.le_of_ble_eq_true rfl)
  rw [lg_entry_eq]
  generalize (lg_sl ([.ref (ar 0), .int (nI i), .int x, .int y]) ++ List.replicate (5 - (lg_sl ([.ref (ar 0), .int (nI i), .int x, .int y])).length) Slot.unset).toArray = ls at hl ⊢
  have hin5 : ∀ w ∈ wsX50, w ∈ wsX5_sendAll := by decide +kernel
  have hn1 := hsq.n.1
  have hn16 := hsq.n.2
  have hloop : ∀ (c9 j9 : Nat) (τ : qSt) (ls : Array Slot) (H : Heap) (locs : List Loc), j9 + c9 = n → q_all i (q_quo k i n) x y n 0 σ = q_all i (q_quo k i n) x y c9 j9 τ → (∀ t : Nat, j9 ≤ t → t < n → (τ.2.2.2.1 i t).length ≤ 6) → qR dd ga n k ar τ H → qS (qAr ar) s.heap H locs → lv_has ls 5 [(4, .int (nI j9)), (0, .ref (ar 0)), (1, .int (nI i)), (2, .int x), (3, .int y)] → W p l e (headSpec wsX5_sendAll ({ frames := 1, cells := 0, slots := 0, locals := 26 })).room s m (([.ref (ar 0), .int (nI i), .int x, .int y] : List Value).toArray) below meth c H locs 0 0 (MQ below (qQv (fun H => qR dd ga n k ar (q_all i (q_quo k i n) x y n 0 σ) H) (qAr ar)) (([.ref (ar 0), .int (nI i), .int x, .int y] : List Value).toArray) s 0 0 (qAr ar)) (F0 m 3 ls []) := by
    intro c9
    induction c9 with
    | zero =>
      intro j9 τ ls H locs hc he hw hR hS hl
      obtain ⟨ρ, hRp, hW⟩ := hR
      refine lv_iload hx hb dX5_sendAll_3 (lv_at hl 0 rfl) ?_
      refine lv_aload_n hx hb dX5_sendAll_5 rfl (lv_at hl 1 rfl) ?_
      refine qr_get (ci := 5) (C := RX5) (T := TX5) (N := 19) hx hb hts hin5 hown hK hW.self rfl 1 (by decide) (hts (.fieldLink RX5 63 "QuorumLockModel" "n" "I") (by decide +kernel)) rfl dX5_sendAll_6 ?_
      refine lv_icmp_ge (tgt := 41) hx hb dX5_sendAll_9 (by decide) (fun c_9 => ?_) (fun c_9 => absurd (nI_le (show n ≤ j9 by omega) (by omega)) c_9)
      exact q_vret hx hb hr hlocks hS (by rw [he]; exact ⟨ρ, hRp, hW⟩) dX5_sendAll_41
    | succ c9 ih =>
      intro j9 τ ls H locs hc he hw hR hS hl
      obtain ⟨ρ, hRp, hW⟩ := hR
      refine lv_iload hx hb dX5_sendAll_3 (lv_at hl 0 rfl) ?_
      refine lv_aload_n hx hb dX5_sendAll_5 rfl (lv_at hl 1 rfl) ?_
      refine qr_get (ci := 5) (C := RX5) (T := TX5) (N := 19) hx hb hts hin5 hown hK hW.self rfl 1 (by decide) (hts (.fieldLink RX5 63 "QuorumLockModel" "n" "I") (by decide +kernel)) rfl dX5_sendAll_6 ?_
      refine lv_icmp_ge (tgt := 41) hx hb dX5_sendAll_9 (by decide) (fun c_9 => absurd c_9 (nI_ge (by omega) (by omega))) (fun c_9 => ?_)
      refine lv_aload_n hx hb dX5_sendAll_12 rfl (lv_at hl 1 rfl) ?_
      refine lv_iload_n hx hb dX5_sendAll_13 rfl (lv_at hl 2 rfl) ?_
      refine qc_i (va_runV (As := [.int (nI i)]) (rest := []) ⟨hx, hb, hml, hown, hts⟩ (c_X5_quorum l dd ga n k ar τ hsq hL i hi) (cwV 1 hts gX5_sendAll_X5_quorum rfl rfl rfl (by decide +kernel) ⟨Nat.le_of_ble_eq_true rfl, Nat.le_of_ble_eq_true rfl⟩) (qpreV hK (⟨ρ, hRp, hW⟩) hW.self rfl) rfl rfl hl.1 rfl (lv_room (Nat.le_of_ble_eq_true rfl)) dX5_sendAll_14 ⟨Nat.zero_le _, Nat.zero_le _⟩) hS (fun q h => h.elim) (fun v14 H locs hp9 hz9 ho9 hS => ?_)
      subst hp9
      have hW := hW.same (fun q => ho9 q (fun h => h))
      refine lv_iload hx hb dX5_sendAll_17 (lv_at hl 0 rfl) ?_
      refine lv_ishr hx hb dX5_sendAll_19 ?_
      refine lv_iconst (v := 1) hx hb dX5_sendAll_20 (by decide) ?_
      refine lv_iand hx hb dX5_sendAll_21 ?_
      refine lv_iconst (v := 1) hx hb dX5_sendAll_22 (by decide) ?_
      refine lv_icmp_ne (tgt := 35) hx hb dX5_sendAll_23 (by decide) (fun c_23 => ?_) (fun c_23 => ?_)
      · refine lv_iinc (v := nI (j9 + 1)) (lv' := [(4, .int (nI (j9 + 1))), (0, .ref (ar 0)), (1, .int (nI i)), (2, .int x), (3, .int y)]) hx hb dX5_sendAll_35 hl (k := 0) rfl (nI_1 _) (by decide) rfl (fun ls hl => ?_)
        refine lv_goto (tgt := 3) hx hb dX5_sendAll_38 (by decide) ?_
        refine ih (j9 + 1) (τ) ls _ _ (by omega) (by rw [he, q_all, if_neg (fun h => c_23 (q_hasI.mpr h))]) (fun t h1 h2 => ?_) ⟨ρ, hRp, hW⟩ hS (lv_sub hl [0, 1, 2, 3, 4] rfl)
        exact hw t (by omega) h2
      · refine lv_aload_n hx hb dX5_sendAll_26 rfl (lv_at hl 1 rfl) ?_
        refine lv_iload_n hx hb dX5_sendAll_27 rfl (lv_at hl 2 rfl) ?_
        refine lv_iload hx hb dX5_sendAll_28 (lv_at hl 0 rfl) ?_
        refine lv_iload_n hx hb dX5_sendAll_30 rfl (lv_at hl 3 rfl) ?_
        refine lv_iload_n hx hb dX5_sendAll_31 rfl (lv_at hl 4 rfl) ?_
        refine qc_v (va_runV (As := [.int (nI i), .int (nI j9), .int x, .int y]) (rest := []) ⟨hx, hb, hml, hown, hts⟩ (c_X5_send l dd ga n k ar τ hsq hL i j9 hi (by omega) x y (by have := hw j9 (Nat.le_refl _) (by omega); omega)) (cwV 4 hts gX5_sendAll_X5_send rfl rfl rfl (by decide +kernel) ⟨Nat.le_of_ble_eq_true rfl, Nat.le_of_ble_eq_true rfl⟩) (qpreV hK (⟨ρ, hRp, hW⟩) hW.self rfl) rfl rfl hl.1 rfl (lv_room (Nat.le_of_ble_eq_true rfl)) dX5_sendAll_32 ⟨Nat.zero_le _, Nat.zero_le _⟩) hS (fun q h => h) (fun H locs hp9 hz9 ho9 hS => ?_)
        obtain ⟨ρ, hRp, hW⟩ := hp9
        refine lv_iinc (v := nI (j9 + 1)) (lv' := [(4, .int (nI (j9 + 1))), (0, .ref (ar 0)), (1, .int (nI i)), (2, .int x), (3, .int y)]) hx hb dX5_sendAll_35 hl (k := 0) rfl (nI_1 _) (by decide) rfl (fun ls hl => ?_)
        refine lv_goto (tgt := 3) hx hb dX5_sendAll_38 (by decide) ?_
        refine ih (j9 + 1) (s_send τ i j9 x y) ls _ _ (by omega) (by rw [he, q_all, if_pos (q_hasI.mp c_23)]) (fun t h1 h2 => ?_) ⟨ρ, hRp, hW⟩ hS (lv_sub hl [0, 1, 2, 3, 4] rfl)
        rw [show (s_send τ i j9 x y).2.2.2.1 i t = τ.2.2.2.1 i t from q2_n (by omega)]; exact hw t (by omega) h2
  refine lv_iconst (v := nI 0) hx hb dX5_sendAll_0 (by decide) ?_
  refine lv_istore (lv' := [(4, .int (nI 0)), (0, .ref (ar 0)), (1, .int (nI i)), (2, .int x), (3, .int y)]) hx hb dX5_sendAll_1 hl (by decide) rfl (fun ls hl => ?_)
  exact hloop n 0 σ ls _ _ (by omega) rfl (fun t _ h => hroom t h) ⟨ρ, hRp, hW⟩ hS (lv_sub hl [0, 1, 2, 3, 4] rfl)
set_option maxHeartbeats 4000000 in
set_option maxRecDepth 100000 in
/-- X5_empty -/
theorem c_X5_empty (l : Launch) (dd : va_G) (ga : Nat → ClassId) (n k : Nat) (ar : Nat → Nat) (σ : qSt) (hsq : qSq n k) (hL : qLr ar) (i : Nat) (hi : i < n) : Met l yX5_empty wsX5_empty ({ frames := 0, cells := 0, slots := 0, locals := 0 }) (qPc dd ga [.ref (ar 0), .int (nI i)] (fun H => qR dd ga n k ar σ H)) (qQv (fun H => qR dd ga n k ar (q_empty σ i) H) (qAr ar)) 0 0 (qAr ar) := by
  refine Met.ofW (cc := cX5_empty) (maxL := 2) (ret := none) (by decide) rfl ?_
  intro p e s m args below meth c s₁ B hml hv
  obtain ⟨rfl, ⟨ρ, hRp, hW⟩, hK⟩ := hv
  have hx := B.exec
  have hb := B.bytes
  have hr := B.returns
  have hts := atoms_spec (ws := wsX5_empty) B.pre
  have hown : s.vm.findClass RX5 = some m.cls := findClass_of_methodNamed B.named
  have hlocks := B.notSynchronized
  have hS : qS (qAr ar) s.heap s.heap [] := qS.rf
  have hl := lv_entry ([.ref (ar 0), .int (nI i)]) (n := 2) (Nat.le_of_ble_eq_true rfl)
  rw [lg_entry_eq]
  generalize (lg_sl ([.ref (ar 0), .int (nI i)]) ++ List.replicate (2 - (lg_sl ([.ref (ar 0), .int (nI i)])).length) Slot.unset).toArray = ls at hl ⊢
  have hin5 : ∀ w ∈ wsX50, w ∈ wsX5_empty := by decide +kernel
  have hn1 := hsq.n.1
  have hn16 := hsq.n.2
  refine lv_aload_n hx hb dX5_empty_0 rfl (lv_at hl 0 rfl) ?_
  refine qr_get (ci := 5) (C := RX5) (T := TX5) (N := 19) hx hb hts hin5 hown hK hW.self rfl 5 (by decide) (hts (.fieldLink RX5 19 "QuorumLockModel" "votes" "[I") (by decide +kernel)) rfl dX5_empty_1 ?_
  refine lv_iload_n hx hb dX5_empty_4 rfl (lv_at hl 1 rfl) ?_
  refine lv_iconst (v := 0) hx hb dX5_empty_5 (by decide) ?_
  refine qr_iast hx hb hK hW.a4 hS (⟨4, by decide, rfl⟩) i (by omega) (by omega) rfl dX5_empty_6 (fun H locs hz9 ho9 hat9 hS => ?_)
  have hW := hW.put hL 4 i 0 (by decide) (by decide) ho9 hat9
  refine lv_aload_n hx hb dX5_empty_7 rfl (lv_at hl 0 rfl) ?_
  refine qr_get (ci := 5) (C := RX5) (T := TX5) (N := 19) hx hb hts hin5 hown hK hW.self rfl 6 (by decide) (hts (.fieldLink RX5 22 "QuorumLockModel" "failures" "[I") (by decide +kernel)) rfl dX5_empty_8 ?_
  refine lv_iload_n hx hb dX5_empty_11 rfl (lv_at hl 1 rfl) ?_
  refine lv_iconst (v := 0) hx hb dX5_empty_12 (by decide) ?_
  refine qr_iast hx hb hK hW.a5 hS (⟨5, by decide, rfl⟩) i (by omega) (by omega) rfl dX5_empty_13 (fun H locs hz9 ho9 hat9 hS => ?_)
  have hW := hW.put hL 5 i 0 (by decide) (by decide) ho9 hat9
  refine lv_aload_n hx hb dX5_empty_14 rfl (lv_at hl 0 rfl) ?_
  refine qr_get (ci := 5) (C := RX5) (T := TX5) (N := 19) hx hb hts hin5 hown hK hW.self rfl 7 (by decide) (hts (.fieldLink RX5 25 "QuorumLockModel" "inquiries" "[I") (by decide +kernel)) rfl dX5_empty_15 ?_
  refine lv_iload_n hx hb dX5_empty_18 rfl (lv_at hl 1 rfl) ?_
  refine lv_iconst (v := 0) hx hb dX5_empty_19 (by decide) ?_
  refine qr_iast hx hb hK hW.a6 hS (⟨6, by decide, rfl⟩) i (by omega) (by omega) rfl dX5_empty_20 (fun H locs hz9 ho9 hat9 hS => ?_)
  have hW := hW.put hL 6 i 0 (by decide) (by decide) ho9 hat9
  exact q_vret hx hb hr hlocks hS (⟨_, ((hRp.stb 3 i 0 (by decide)).stb 4 i 0 (by decide)).stb 5 i 0 (by decide), hW⟩) dX5_empty_21
set_option maxHeartbeats 4000000 in
set_option maxRecDepth 100000 in
/-- X5_giveUp -/
theorem c_X5_giveUp (l : Launch) (dd : va_G) (ga : Nat → ClassId) (n k : Nat) (ar : Nat → Nat) (σ : qSt) (hsq : qSq n k) (hL : qLr ar) (i j : Nat) (hi : i < n) (hj : j < n) (hroom : (σ.2.2.2.1 i j).length ≤ 8) : Met l yX5_giveUp wsX5_giveUp ({ frames := 1, cells := 0, slots := 0, locals := 26 }) (qPc dd ga [.ref (ar 0), .int (nI i), .int (nI j)] (fun H => qR dd ga n k ar σ H)) (qQv (fun H => qR dd ga n k ar (q_giveUp σ i j) H) (qAr ar)) 0 0 (qAr ar) := by
  refine Met.ofW (cc := cX5_giveUp) (maxL := 3) (ret := none) (by decide) rfl ?_
  intro p e s m args below meth c s₁ B hml hv
  obtain ⟨rfl, ⟨ρ, hRp, hW⟩, hK⟩ := hv
  have hx := B.exec
  have hb := B.bytes
  have hr := B.returns
  have hts := atoms_spec (ws := wsX5_giveUp) B.pre
  have hown : s.vm.findClass RX5 = some m.cls := findClass_of_methodNamed B.named
  have hlocks := B.notSynchronized
  have hS : qS (qAr ar) s.heap s.heap [] := qS.rf
  have hl := lv_entry ([.ref (ar 0), .int (nI i), .int (nI j)]) (n := 3) (Nat.le_of_ble_eq_true rfl)
  rw [lg_entry_eq]
  generalize (lg_sl ([.ref (ar 0), .int (nI i), .int (nI j)]) ++ List.replicate (3 - (lg_sl ([.ref (ar 0), .int (nI i), .int (nI j)])).length) Slot.unset).toArray = ls at hl ⊢
  have hin5 : ∀ w ∈ wsX50, w ∈ wsX5_giveUp := by decide +kernel
  have hn1 := hsq.n.1
  have hn16 := hsq.n.2
  refine lv_aload_n hx hb dX5_giveUp_0 rfl (lv_at hl 0 rfl) ?_
  refine lv_iload_n hx hb dX5_giveUp_1 rfl (lv_at hl 1 rfl) ?_
  refine lv_iload_n hx hb dX5_giveUp_2 rfl (lv_at hl 2 rfl) ?_
  refine lv_iconst (v := 5) hx hb dX5_giveUp_3 (by decide) ?_
  refine lv_aload_n hx hb dX5_giveUp_4 rfl (lv_at hl 0 rfl) ?_
  refine qr_get (ci := 5) (C := RX5) (T := TX5) (N := 19) hx hb hts hin5 hown hK hW.self rfl 4 (by decide) (hts (.fieldLink RX5 16 "QuorumLockModel" "time" "[I") (by decide +kernel)) rfl dX5_giveUp_5 ?_
  refine lv_iload_n hx hb dX5_giveUp_8 rfl (lv_at hl 1 rfl) ?_
  refine qr_iald (v := (σ.1 2 i)) hx hb hK hW.a3 i (by omega) (by omega) rfl (hRp.t 2 i (by decide) hi) dX5_giveUp_9 ?_
  refine qc_v (va_runV (As := [.int (nI i), .int (nI j), .int 5, .int (σ.1 2 i)]) (rest := []) ⟨hx, hb, hml, hown, hts⟩ (c_X5_send l dd ga n k ar σ hsq hL i j hi hj 5 (σ.1 2 i) hroom) (cwV 4 hts gX5_giveUp_X5_send rfl rfl rfl (by decide +kernel) ⟨Nat.le_of_ble_eq_true rfl, Nat.le_of_ble_eq_true rfl⟩) (qpreV hK (⟨ρ, hRp, hW⟩) hW.self rfl) rfl rfl hl.1 rfl (lv_room (Nat.le_of_ble_eq_true rfl)) dX5_giveUp_10 ⟨Nat.zero_le _, Nat.zero_le _⟩) hS (fun q h => h) (fun H locs hp9 hz9 ho9 hS => ?_)
  obtain ⟨ρ, hRp, hW⟩ := hp9
  refine lv_aload_n hx hb dX5_giveUp_13 rfl (lv_at hl 0 rfl) ?_
  refine qr_get (ci := 5) (C := RX5) (T := TX5) (N := 19) hx hb hts hin5 hown hK hW.self rfl 5 (by decide) (hts (.fieldLink RX5 19 "QuorumLockModel" "votes" "[I") (by decide +kernel)) rfl dX5_giveUp_14 ?_
  refine lv_iload_n hx hb dX5_giveUp_17 rfl (lv_at hl 1 rfl) ?_
  refine lv_dup2_11 hx hb dX5_giveUp_18 rfl rfl ?_
  refine qr_iald (v := (σ.1 3 i)) hx hb hK hW.a4 i (by omega) (by omega) rfl (hRp.t 3 i (by decide) hi) dX5_giveUp_19 ?_
  refine lv_iconst (v := 1) hx hb dX5_giveUp_20 (by decide) ?_
  refine lv_iload_n hx hb dX5_giveUp_21 rfl (lv_at hl 2 rfl) ?_
  refine lv_ishl hx hb dX5_giveUp_22 ?_
  refine lv_iconst (v := (-1)) hx hb dX5_giveUp_23 (by decide) ?_
  refine lv_ixor hx hb dX5_giveUp_24 ?_
  refine lv_iand hx hb dX5_giveUp_25 ?_
  refine q_ti (y := σ.1 3 i &&& q_nbit j) (rfl) ?_
  refine qr_iast hx hb hK hW.a4 hS (⟨4, by decide, rfl⟩) i (by omega) (by omega) rfl dX5_giveUp_26 (fun H locs hz9 ho9 hat9 hS => ?_)
  have hW := hW.put hL 4 i (σ.1 3 i &&& q_nbit j) (by decide) (by decide) ho9 hat9
  refine lv_aload_n hx hb dX5_giveUp_27 rfl (lv_at hl 0 rfl) ?_
  refine qr_get (ci := 5) (C := RX5) (T := TX5) (N := 19) hx hb hts hin5 hown hK hW.self rfl 7 (by decide) (hts (.fieldLink RX5 25 "QuorumLockModel" "inquiries" "[I") (by decide +kernel)) rfl dX5_giveUp_28 ?_
  refine lv_iload_n hx hb dX5_giveUp_31 rfl (lv_at hl 1 rfl) ?_
  refine lv_dup2_11 hx hb dX5_giveUp_32 rfl rfl ?_
  refine qr_iald (v := (σ.1 5 i)) hx hb hK hW.a6 i (by omega) (by omega) rfl (by simp [q2]; exact hRp.t 5 i (by decide) hi) dX5_giveUp_33 ?_
  refine lv_iconst (v := 1) hx hb dX5_giveUp_34 (by decide) ?_
  refine lv_iload_n hx hb dX5_giveUp_35 rfl (lv_at hl 2 rfl) ?_
  refine lv_ishl hx hb dX5_giveUp_36 ?_
  refine lv_iconst (v := (-1)) hx hb dX5_giveUp_37 (by decide) ?_
  refine lv_ixor hx hb dX5_giveUp_38 ?_
  refine lv_iand hx hb dX5_giveUp_39 ?_
  refine q_ti (y := σ.1 5 i &&& q_nbit j) (rfl) ?_
  refine qr_iast hx hb hK hW.a6 hS (⟨6, by decide, rfl⟩) i (by omega) (by omega) rfl dX5_giveUp_40 (fun H locs hz9 ho9 hat9 hS => ?_)
  have hW := hW.put hL 6 i (σ.1 5 i &&& q_nbit j) (by decide) (by decide) ho9 hat9
  refine lv_aload_n hx hb dX5_giveUp_41 rfl (lv_at hl 0 rfl) ?_
  refine qr_get (ci := 5) (C := RX5) (T := TX5) (N := 19) hx hb hts hin5 hown hK hW.self rfl 6 (by decide) (hts (.fieldLink RX5 22 "QuorumLockModel" "failures" "[I") (by decide +kernel)) rfl dX5_giveUp_42 ?_
  refine lv_iload_n hx hb dX5_giveUp_45 rfl (lv_at hl 1 rfl) ?_
  refine lv_dup2_11 hx hb dX5_giveUp_46 rfl rfl ?_
  refine qr_iald (v := (σ.1 4 i)) hx hb hK hW.a5 i (by omega) (by omega) rfl (by simp [q2]; exact hRp.t 4 i (by decide) hi) dX5_giveUp_47 ?_
  refine lv_iconst (v := 1) hx hb dX5_giveUp_48 (by decide) ?_
  refine lv_iload_n hx hb dX5_giveUp_49 rfl (lv_at hl 2 rfl) ?_
  refine lv_ishl hx hb dX5_giveUp_50 ?_
  refine lv_ior hx hb dX5_giveUp_51 ?_
  refine q_ti (y := σ.1 4 i ||| q_bit j) (rfl) ?_
  refine qr_iast hx hb hK hW.a5 hS (⟨5, by decide, rfl⟩) i (by omega) (by omega) rfl dX5_giveUp_52 (fun H locs hz9 ho9 hat9 hS => ?_)
  have hW := hW.put hL 5 i (σ.1 4 i ||| q_bit j) (by decide) (by decide) ho9 hat9
  exact q_vret hx hb hr hlocks hS (⟨_, ((hRp.stb 3 i (σ.1 3 i &&& q_nbit j) (by decide)).stb 5 i (σ.1 5 i &&& q_nbit j) (by decide)).stb 4 i (σ.1 4 i ||| q_bit j) (by decide), hW⟩) dX5_giveUp_53
set_option maxHeartbeats 4000000 in
set_option maxRecDepth 100000 in
/-- X5_lend -/
theorem c_X5_lend (l : Launch) (dd : va_G) (ga : Nat → ClassId) (n k : Nat) (ar : Nat → Nat) (σ : qSt) (hsq : qSq n k) (hL : qLr ar) (i a : Nat) (hi : i < n) (ha : a < n) (t : Int32) (hroom : (σ.2.2.2.1 i a).length ≤ 8) : Met l yX5_lend wsX5_lend ({ frames := 1, cells := 0, slots := 0, locals := 26 }) (qPc dd ga [.ref (ar 0), .int (nI i), .int (nI a), .int t] (fun H => qR dd ga n k ar σ H)) (qQv (fun H => qR dd ga n k ar (q_lend σ i a t) H) (qAr ar)) 0 0 (qAr ar) := by
  refine Met.ofW (cc := cX5_lend) (maxL := 4) (ret := none) (by decide) rfl ?_
  intro p e s m args below meth c s₁ B hml hv
  obtain ⟨rfl, ⟨ρ, hRp, hW⟩, hK⟩ := hv
  have hx := B.exec
  have hb := B.bytes
  have hr := B.returns
  have hts := atoms_spec (ws := wsX5_lend) B.pre
  have hown : s.vm.findClass RX5 = some m.cls := findClass_of_methodNamed B.named
  have hlocks := B.notSynchronized
  have hS : qS (qAr ar) s.heap s.heap [] := qS.rf
  have hl := lv_entry ([.ref (ar 0), .int (nI i), .int (nI a), .int t]) (n := 4) (Nat.le_of_ble_eq_true rfl)
  rw [lg_entry_eq]
  generalize (lg_sl ([.ref (ar 0), .int (nI i), .int (nI a), .int t]) ++ List.replicate (4 - (lg_sl ([.ref (ar 0), .int (nI i), .int (nI a), .int t])).length) Slot.unset).toArray = ls at hl ⊢
  have hin5 : ∀ w ∈ wsX50, w ∈ wsX5_lend := by decide +kernel
  have hn1 := hsq.n.1
  have hn16 := hsq.n.2
  refine lv_aload_n hx hb dX5_lend_0 rfl (lv_at hl 0 rfl) ?_
  refine qr_get (ci := 5) (C := RX5) (T := TX5) (N := 19) hx hb hts hin5 hown hK hW.self rfl 8 (by decide) (hts (.fieldLink RX5 28 "QuorumLockModel" "lent" "[I") (by decide +kernel)) rfl dX5_lend_1 ?_
  refine lv_iload_n hx hb dX5_lend_4 rfl (lv_at hl 1 rfl) ?_
  refine lv_iload_n hx hb dX5_lend_5 rfl (lv_at hl 2 rfl) ?_
  refine qr_iast hx hb hK hW.a7 hS (⟨7, by decide, rfl⟩) i (by omega) (by omega) rfl dX5_lend_6 (fun H locs hz9 ho9 hat9 hS => ?_)
  have hW := hW.put hL 7 i (nI a) (by decide) (by decide) ho9 hat9
  refine lv_aload_n hx hb dX5_lend_7 rfl (lv_at hl 0 rfl) ?_
  refine qr_get (ci := 5) (C := RX5) (T := TX5) (N := 19) hx hb hts hin5 hown hK hW.self rfl 9 (by decide) (hts (.fieldLink RX5 31 "QuorumLockModel" "lentTime" "[I") (by decide +kernel)) rfl dX5_lend_8 ?_
  refine lv_iload_n hx hb dX5_lend_11 rfl (lv_at hl 1 rfl) ?_
  refine lv_iload_n hx hb dX5_lend_12 rfl (lv_at hl 3 rfl) ?_
  refine qr_iast hx hb hK hW.a8 hS (⟨8, by decide, rfl⟩) i (by omega) (by omega) rfl dX5_lend_13 (fun H locs hz9 ho9 hat9 hS => ?_)
  have hW := hW.put hL 8 i t (by decide) (by decide) ho9 hat9
  refine lv_aload_n hx hb dX5_lend_14 rfl (lv_at hl 0 rfl) ?_
  refine qr_get (ci := 5) (C := RX5) (T := TX5) (N := 19) hx hb hts hin5 hown hK hW.self rfl 10 (by decide) (hts (.fieldLink RX5 34 "QuorumLockModel" "inquired" "[Z") (by decide +kernel)) rfl dX5_lend_15 ?_
  refine lv_iload_n hx hb dX5_lend_18 rfl (lv_at hl 1 rfl) ?_
  refine lv_iconst (v := 0) hx hb dX5_lend_19 (by decide) ?_
  refine qr_zast hx hb hK hW.a9 hS (⟨9, by decide, rfl⟩) i (by omega) (by omega) rfl rfl dX5_lend_20 (fun H locs hz9 ho9 hat9 hS => ?_)
  have hW := hW.put hL 9 i 0 (by decide) (by decide) ho9 hat9
  refine lv_aload_n hx hb dX5_lend_21 rfl (lv_at hl 0 rfl) ?_
  refine lv_iload_n hx hb dX5_lend_22 rfl (lv_at hl 1 rfl) ?_
  refine lv_iload_n hx hb dX5_lend_23 rfl (lv_at hl 2 rfl) ?_
  refine lv_iconst (v := 2) hx hb dX5_lend_24 (by decide) ?_
  refine lv_iload_n hx hb dX5_lend_25 rfl (lv_at hl 3 rfl) ?_
  refine qc_v (va_runV (As := [.int (nI i), .int (nI a), .int 2, .int t]) (rest := []) ⟨hx, hb, hml, hown, hts⟩ (c_X5_send l dd ga n k ar (s_tb (s_ln σ i (some (a, t))) 6 i 0) hsq hL i a hi ha 2 t hroom) (cwV 4 hts gX5_lend_X5_send rfl rfl rfl (by decide +kernel) ⟨Nat.le_of_ble_eq_true rfl, Nat.le_of_ble_eq_true rfl⟩) (qpreV hK (⟨_, (hRp.sln i a t).stb 6 i 0 (by decide), hW⟩) hW.self rfl) rfl rfl hl.1 rfl (lv_room (Nat.le_of_ble_eq_true rfl)) dX5_lend_26 ⟨Nat.zero_le _, Nat.zero_le _⟩) hS (fun q h => h) (fun H locs hp9 hz9 ho9 hS => ?_)
  obtain ⟨ρ, hRp, hW⟩ := hp9
  exact q_vret hx hb hr hlocks hS (⟨ρ, hRp, hW⟩) dX5_lend_29
