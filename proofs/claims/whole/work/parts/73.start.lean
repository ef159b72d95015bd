theorem qC.lt {dd : va_G} {ga : Nat → ClassId} {n k : Nat} {ad : Nat → Nat → Nat} {σ : qSt} {H : Heap} (h : qC dd ga n k ad σ H) : ∀ a b, qd n a b → ad a b < H.size := by
  intro a b hd
  have hw := h.wir
  obtain ⟨P, O, Y, F, w0, w1, w2, w3, w4, -⟩ := hw
  rcases hd with ⟨h1, h2⟩ | ⟨h1, h2, h3⟩
  · subst h2
    rcases (show a = 0 ∨ a = 1 ∨ a = 2 ∨ a = 3 ∨ a = 4 ∨ a = 5 ∨ a = 6 ∨ a = 7 ∨ a = 8 ∨ a = 9 by omega) with h4 | h4 | h4 | h4 | h4 | h4 | h4 | h4 | h4 | h4 <;> subst h4
    · exact qa_lt h.self
    · exact qa_lt h.quo
    · exact qa_lt h.clk
    · exact qa_lt h.arA
    · exact qa_lt h.arV
    · exact qa_lt w0
    · exact qa_lt w1
    · exact qa_lt w2
    · exact qa_lt w3
    · exact qa_lt w4
  · obtain ⟨f, g, r0, r1, r2, -⟩ := h.row b h3
    rcases (show a = 10 ∨ a = 11 ∨ a = 12 ∨ a = 13 ∨ a = 14 by omega) with h4 | h4 | h4 | h4 | h4 <;> subst h4
    · exact qa_lt (h.ask b h3)
    · exact qa_lt (h.vot b h3)
    · exact qa_lt r0
    · exact qa_lt r1
    · exact qa_lt r2
set_option maxHeartbeats 8000000 in
set_option maxRecDepth 100000 in
/-- THE LAW, from its entry, over a property that every call keeps -/
theorem whole_open {p : Program} {e : Env} {s : State} {m : MethodId} {below : List Frame} {meth : Method} {c : Code} (l : Launch) {b L : Nat} {xs : Nat → Int32} (hL : L ≤ 2561) (C0 : lw_At p s m meth c b L xs) (hJx : ∀ n k, qSq n k → ∃ J, qJok n k J) : W p l e room_1 s m #[Value.ref b] below meth c s.heap [] 0 0 (lw_Z below #[Value.ref b] s) (entryFrame m ([Value.ref b] : List Value).toArray 4) := by
  obtain ⟨hx, hb, hr, hml, hown, hts0, hX, hbl, hlocks, hgv⟩ := id C0
  have hb : c.code = cL_law := hb
  have hts := fun w h => hts0 w (wsL_law_in w h)
  have hbA : ¬ (fun q : Nat => s.heap.size ≤ q) b := Nat.not_le.mpr hbl
  obtain ⟨cc0, iS0, hKn0⟩ := u_known (C := RX0) (T := TX0) (N := 5) (n := 5) hts inlX0 (hts (.instantiable RX0 5) (by decide +kernel))
  obtain ⟨cc1, iS1, hKn1⟩ := u_known (C := RX1) (T := TX1) (N := 3) (n := 3) hts inlX1 (hts (.instantiable RX1 3) (by decide +kernel))
  obtain ⟨cc2, iS2, hKn2⟩ := u_known (C := RX2) (T := TX2) (N := 4) (n := 4) hts inlX2 (hts (.instantiable RX2 4) (by decide +kernel))
  obtain ⟨cc3, iS3, hKn3⟩ := u_known (C := RX3) (T := TX3) (N := 5) (n := 5) hts inlX3 (hts (.instantiable RX3 5) (by decide +kernel))
  obtain ⟨cc4, iS4, hKn4⟩ := u_known (C := RX4) (T := TX4) (N := 7) (n := 7) hts inlX4 (hts (.instantiable RX4 7) (by decide +kernel))
  obtain ⟨cc5, iS5, hKn5⟩ := u_known (C := RX5) (T := TX5) (N := 19) (n := 19) hts inlX5 (hts (.instantiable RX5 19) (by decide +kernel))
  obtain ⟨cI, kI, cmI, hI1, hI2, hI3⟩ := Cond.arrayClass_spec (hts (.arrayClass .int) (by decide +kernel))
  obtain ⟨cZ, kZ, cmZ, hZ1, hZ2, hZ3⟩ := Cond.arrayClass_spec (hts (.arrayClass .boolean) (by decide +kernel))
  have hAO1 : va_AO "QuorumLock$Asker" s := va_AO.of (hts0 (.arrayOver (.object "QuorumLock$Asker")) (by decide +kernel))
  have hAO2 : va_AO "QuorumLock$Voter" s := va_AO.of (hts0 (.arrayOver (.object "QuorumLock$Voter")) (by decide +kernel))
  obtain ⟨cmA, cA, kA, hA1, -, hA3, hA4, hA5⟩ := Cond.arrayOver_spec hAO1
  obtain ⟨cmV, cV, kV, hV1, -, hV3, hV4, hV5⟩ := Cond.arrayOver_spec hAO2
  obtain ⟨dd, ga, hK⟩ : ∃ (dd : va_G) (ga : Nat → ClassId), qK dd ga s := by
    refine ⟨(fun k => if k = 0 then cc0 else if k = 1 then cc1 else if k = 2 then cc2 else if k = 3 then cc3 else if k = 4 then cc4 else cc5, fun k => if k = 0 then iS0 else if k = 1 then iS1 else if k = 2 then iS2 else if k = 3 then iS3 else if k = 4 then iS4 else iS5), fun k => if k = 0 then cI else if k = 1 then cZ else if k = 2 then cA else cV, ⟨?_, ?_⟩, ?_, ?_, ?_⟩
    · intro k q hq
      match k, hq with
      | 0, hq => cases hq; exact hKn0
      | 1, hq => cases hq; exact hKn1
      | 2, hq => cases hq; exact hKn2
      | 3, hq => cases hq; exact hKn3
      | 4, hq => cases hq; exact hKn4
      | 5, hq => cases hq; exact hKn5
      | k + 6, hq => simp [vwCl] at hq
    · intro k q hq
      match k, hq with
      | 0, hq => cases hq; exact ⟨fun n z => ⟨fun k h => (by cases h), kI, hI2, cmI, hI3⟩, hI1⟩
      | 1, hq => cases hq; exact ⟨fun n z => ⟨fun k h => (by cases h), kZ, hZ2, cmZ, hZ3⟩, hZ1⟩
      | 2, hq => cases hq; exact ⟨fun n z => ⟨fun k h => (by cases h), kA, hA3, cmA, hA4⟩, kA, cmA, hA3, hA4, hA1, hA5⟩
      | 3, hq => cases hq; exact ⟨fun n z => ⟨fun k h => (by cases h), kV, hV3, cmV, hV4⟩, kV, cmV, hV3, hV4, hV1, hV5⟩
      | k + 4, hq => simp [qT] at hq
    · exact va_Nw.of rfl (hts0 (.methodLinkNest RX1 22 yX4_isBefore "QuorumLock") (by decide +kernel))
    · exact va_Nw.of rfl (hts0 (.methodLinkNest RX2 44 yX4_isBefore "QuorumLock") (by decide +kernel))
    · exact va_Nw.of rfl (hts0 (.methodLinkNest RX4 53 yX0_init "QuorumLock") (by decide +kernel))
  have hS : va_S (fun q : Nat => s.heap.size ≤ q) s.heap s.heap [] := va_S.rf
  have hl := lv_entry ([.ref b]) (n := 4) (Nat.le_of_ble_eq_true rfl)
  rw [lg_entry_eq]
  generalize (lg_sl ([.ref b]) ++ List.replicate (4 - (lg_sl ([.ref b])).length) Slot.unset).toArray = ls at hl ⊢
  obtain ⟨x, ex⟩ : ∃ x, x = q_x0 L xs := ⟨_, rfl⟩
  obtain ⟨J, hJ⟩ := hJx (q_kk x * q_kk x) (q_kk x) (q_kk_sq x)
  have hsq := q_kk_sq x
  refine qn_new (ci := 4) (fs := [.int 0, .null, .null, .null, .null, .null, .int 0]) (C := RX4) (T := TX4) (N := 7) hx hb hts inlX4 tyX4 tyX4_ok hown (hts (.classLink RL 7 RX4) (by decide +kernel)) (hts (.instantiable RX4 7) (by decide +kernel)) (hts (.initialized RX4) (by decide +kernel)) hK hS rfl (fun j hj => by rcases (show j = 0 ∨ j = 1 ∨ j = 2 ∨ j = 3 ∨ j = 4 ∨ j = 5 ∨ j = 6 by omega) with rfl | rfl | rfl | rfl | rfl | rfl | rfl <;> rfl) (by show _ ≤ 600000; omega) (by show _ ≤ 7302250; omega) dL_law_0 (fun q0 H hq9 hz9 ho9 hat9 hS => ?_)
  have l_q0 : s.heap.size ≤ q0 := by rw [hq9]; have := hS.1; omega
  have h_q0 := hat9
  have z_q0 : H.size = q0 + 1 := by rw [hz9, hq9]
  refine lv_dup hx hb dL_law_3 rfl ?_
  refine lv_aload_n hx hb dL_law_4 rfl (lv_at hl 0 rfl) ?_
  refine lv_iconst (v := 0) hx hb dL_law_5 (by decide) ?_
  refine qcall_i (va_runS (As := [.ref b, .int 0]) (rest := [.ref q0, .ref q0]) ⟨hx, hb, hml, hown, hts⟩ (c_L_cell l b L xs hL) (va_cwS 2 hts gL_law_L_cell rfl rfl rfl (by decide +kernel) ⟨Nat.le_of_ble_eq_true rfl, Nat.le_of_ble_eq_true rfl⟩) (qpreX (hX.kept (hS.2.1 b hbl hbA))) rfl rfl hl.1 rfl (lv_room (Nat.le_of_ble_eq_true rfl)) dL_law_6 ⟨by show _ ≤ 600000; omega, by show _ ≤ 7302250; omega⟩) hS (fun q h => h.elim) (fun v9 H locs hp9 hz9 ho9 hS => ?_)
  rw [← ex] at hp9
  have hp9 := hp9.symm; subst hp9
  have h_q0 := qa_kept h_q0 (ho9 _ (fun h => h))
  have z_q0 : H.size = q0 + 1 := by rw [hz9]; exact z_q0
  refine qcall_a (va_runI (As := [.int x]) (rest := [.ref q0]) ⟨hx, hb, hml, hown, hts⟩ (c_X4_init l dd ga q0 H.size x) (cwI 1 hts gL_law_X4_init rfl rfl rfl (hts (.initialized RX4) (by decide +kernel)) (hts (.methodLink RL 15 yX4_init) (by decide +kernel)) (hts (.instanceMethod yX4_init) (by decide +kernel)) rfl (by decide +kernel) ⟨Nat.le_of_ble_eq_true rfl, Nat.le_of_ble_eq_true rfl⟩) (qpreS2 hK hAO1 hAO2 ⟨rfl, h_q0⟩) rfl rfl hl.1 rfl (lv_room (Nat.le_of_ble_eq_true rfl)) dL_law_9 ⟨by show _ ≤ 600000; omega, by show _ ≤ 7302250; omega⟩) hS (fun z h => h.elim (fun h => by rw [h]; exact l_q0) (fun h => by omega)) (fun H locs hp9 hz9 ho9 hS => ?_)
  obtain ⟨ad, hLc, a00, hge, hC⟩ := hp9
  have hac : ∀ a d, qd (q_kk x * q_kk x) a d → s.heap.size ≤ ad a d := fun a d hd => by
    by_cases hz : a = 0 ∧ d = 0
    · rw [hz.1, hz.2, a00]; exact l_q0
    · have := hge a d hd hz; omega
  refine lv_astore_n (lv' := [(1, .ref q0), (0, .ref b)]) hx hb dL_law_12 rfl hl (by decide) rfl (fun ls hl => ?_)
  refine qn_new (ci := 5) (fs := [.int 0, .int 0, .null, .null, .null, .null, .null, .null, .null, .null, .null, .null, .null, .null, .null, .null, .null, .null, .int 0]) (C := RX5) (T := TX5) (N := 19) hx hb hts inlX5 tyX5 tyX5_ok hown (hts (.classLink RL 18 RX5) (by decide +kernel)) (hts (.instantiable RX5 19) (by decide +kernel)) (hts (.initialized RX5) (by decide +kernel)) hK hS rfl (fun j hj => by rcases (show j = 0 ∨ j = 1 ∨ j = 2 ∨ j = 3 ∨ j = 4 ∨ j = 5 ∨ j = 6 ∨ j = 7 ∨ j = 8 ∨ j = 9 ∨ j = 10 ∨ j = 11 ∨ j = 12 ∨ j = 13 ∨ j = 14 ∨ j = 15 ∨ j = 16 ∨ j = 17 ∨ j = 18 by omega) with rfl | rfl | rfl | rfl | rfl | rfl | rfl | rfl | rfl | rfl | rfl | rfl | rfl | rfl | rfl | rfl | rfl | rfl | rfl <;> rfl) (by show _ ≤ 600000; omega) (by show _ ≤ 7302250; omega) dL_law_13 (fun q1 H hq9 hz9 ho9 hat9 hS => ?_)
  have l_q1 : s.heap.size ≤ q1 := by rw [hq9]; have := hS.1; omega
  have hcl : ∀ a d, qd (q_kk x * q_kk x) a d → ad a d < q1 := fun a d hd => by rw [hq9]; exact hC.lt a d hd
  have hC := hC.kept (fun a d hd => ho9 _ (hC.lt a d hd))
  have h_q1 := hat9
  have z_q1 : H.size = q1 + 1 := by rw [hz9, hq9]
  refine lv_dup hx hb dL_law_16 rfl ?_
  refine lv_aload_n hx hb dL_law_17 rfl (lv_at hl 1 rfl) ?_
  refine lv_iconst (v := 0) hx hb dL_law_18 (by decide) ?_
  refine qcall_i (va_runS (As := [.ref b, .int 0]) (rest := [.ref q1, .ref q1]) ⟨hx, hb, hml, hown, hts⟩ (c_L_cell l b L xs hL) (va_cwS 2 hts gL_law_L_cell rfl rfl rfl (by decide +kernel) ⟨Nat.le_of_ble_eq_true rfl, Nat.le_of_ble_eq_true rfl⟩) (qpreX (hX.kept (hS.2.1 b hbl hbA))) rfl rfl hl.1 rfl (lv_room (Nat.le_of_ble_eq_true rfl)) dL_law_19 ⟨by show _ ≤ 600000; omega, by show _ ≤ 7302250; omega⟩) hS (fun q h => h.elim) (fun v9 H locs hp9 hz9 ho9 hS => ?_)
  rw [← ex] at hp9
  have hp9 := hp9.symm; subst hp9
  have h_q1 := qa_kept h_q1 (ho9 _ (fun h => h))
  have hC := hC.same (fun q => ho9 q (fun h => h))
  have z_q1 : H.size = q1 + 1 := by rw [hz9]; exact z_q1
  refine qcall_a (va_runI (As := [.int x]) (rest := [.ref q1]) ⟨hx, hb, hml, hown, hts⟩ (c_X5_init l dd ga q1 H.size x) (cwI 1 hts gL_law_X5_init rfl rfl rfl (hts (.initialized RX5) (by decide +kernel)) (hts (.methodLink RL 20 yX5_init) (by decide +kernel)) (hts (.instanceMethod yX5_init) (by decide +kernel)) rfl (by decide +kernel) ⟨Nat.le_of_ble_eq_true rfl, Nat.le_of_ble_eq_true rfl⟩) (qpreS hK ⟨rfl, h_q1⟩) rfl rfl hl.1 rfl (lv_room (Nat.le_of_ble_eq_true rfl)) dL_law_22 ⟨by show _ ≤ 600000; omega, by show _ ≤ 7302250; omega⟩) hS (fun z h => h.elim (fun h => by rw [h]; exact l_q1) (fun h => by omega)) (fun H locs hp9 hz9 ho9 hS => ?_)
  obtain ⟨ar, hLr, ar0, hger, hR⟩ := hp9
  have hC := hC.kept (fun a d hd => ho9 _ (by have := hcl a d hd; omega) (fun h => by have := hcl a d hd; omega))
  have harl : ∀ a, a ≤ 16 → q1 ≤ ar a := fun a ha => by
    rcases Nat.eq_zero_or_pos a with h | h
    · rw [h, ar0]; exact Nat.le_refl _
    · have := hger a h ha; omega
  refine lv_astore_n (lv' := [(2, .ref q1), (1, .ref q0), (0, .ref b)]) hx hb dL_law_25 rfl hl (by decide) rfl (fun ls hl => ?_)
  refine lv_iconst (v := nI 1) hx hb dL_law_26 (by decide) ?_
  refine lv_istore_n (lv' := [(3, .int (nI 1)), (2, .ref q1), (1, .ref q0), (0, .ref b)]) hx hb dL_law_27 rfl hl (by decide) rfl (fun ls hl => ?_)
  refine W.widen (k := 600000) (n := 7302250) (by omega) (by omega) ?_
  exact law_loop hL C0 hK hsq hLc hLr hac (fun a ha => by have := harl a ha; omega) (fun a d z hd hz he => by have := hcl a d hd; have := harl z hz; omega) hJ 514 1 q_init _ _ ls (by omega) (by omega) (by omega) (hJ.2.1 _ (by omega)) hC hR hS (by rw [a00, ar0]; exact lv_sub hl [0, 3, 2, 1] rfl)
