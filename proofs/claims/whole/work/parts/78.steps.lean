theorem clk_le {M : Int} {T : Int32} {V : List (Int32 × Int32)} {z t : Int32} (h : ∀ m ∈ V, m.2.toInt ≤ M) (hT : t.toInt ≤ M) : ∀ m ∈ V ++ [(z, t)], m.2.toInt ≤ M := fun m hm => by
  rcases List.mem_append.1 hm with hm | hm
  · exact h m hm
  · rw [List.mem_singleton.1 hm]; exact hT
theorem rv_head {x : Nat × Int32} {r : List (Nat × Int32)} {a : Nat} (h : rv (x :: r) a = []) : x.1 ≠ a := fun he => by
  subst he; rw [rv_self] at h; cases h
theorem asked_inv {n k c j a : Nat} {t : Int32} {σ : qSt} (hj : j < n) (ha : a < n) (hG : ∀ i j', i < n → j' < n → ¬ (i = a ∧ j' = j) → qG k σ i j') (hV : ∀ j', j' < n → qV n σ j') (hC : qClk n c σ)
    (hP : PG (inQ k a j) (σ.1 0 a).toInt (σ.1 1 a) (σ.1 2 a) (q_has (σ.1 3 a) j) (q_has (σ.1 5 a) j) (σ.1 6 j) (lv (σ.2.1 j) a) (rv (σ.2.2.1 j) a) ((1, t) :: vA σ a j) (vV σ a j)) : qInv n k c (q_asked σ j a t) := by
  obtain ⟨hb, hPI⟩ := hP.in_A rfl
  obtain ⟨ht, hA0, hSt, hv, hq, hlt, hrt, hst⟩ := hPI.asked
  have hT := (hC.1 a ha).2.2.1
  cases hl : σ.2.1 j with
  | none =>
    have e : q_asked σ j a t = q_lend σ j a t := by unfold q_asked; rw [hl]
    rw [e]
    have hrow : σ.2.2.1 j = [] := (hV j hj).2.2.2.1 hl
    refine lend_inv hj ha hG (fun j' hj' _ => hV j' hj') hC ?_ hl (fun x hx => by rw [hrow] at hx; cases hx) (by rw [hrow]; exact List.Pairwise.nil)
    refine PG.eq (St := 1) (T := σ.1 2 a) (v := false) (q := false) (iq := 0) (lt := some (σ.1 2 a)) (rt := []) (A := []) (V := vV σ a j ++ [(2, σ.1 2 a)]) ⟨Or.inl ⟨hb, PInv.lend0 (0 : Int32) hst⟩, fun s hs => ?_, clk_le (T := t) hP.2.2 hT⟩ (Int.le_refl _) hSt rfl hv hq rfl (by rw [ht]) hrt hA0 (by rw [ht])
    injection hs with hs; rw [← hs]; exact hT
  | some eu =>
    obtain ⟨e, u⟩ := eu
    have hI := ins_inv hj ha hG hV hC hP hl
    have e1 : (s_rw σ j (q_ins (σ.2.2.1 j) a t)).2.2.1 j = q_ins (σ.2.2.1 j) a t := va_up_self _ _ _
    by_cases hc : q_pl (σ.2.2.1 j) a t (σ.2.2.1 j).length = 0 ∧ q_bef t a u e = true
    · cases hr : σ.2.2.1 j with
      | nil =>
        have e2 : q_asked σ j a t = if σ.1 6 j = 0 then s_tb (s_send (s_rw σ j (q_ins (σ.2.2.1 j) a t)) j e 4 u) 6 j 1 else s_rw σ j (q_ins (σ.2.2.1 j) a t) := by
          unfold q_asked; simp only [hl]; rw [if_pos hc]; simp only [hr]
        rw [e2]
        by_cases h6 : σ.1 6 j = 0
        · rw [if_pos h6]; exact inq_inv hI hj hl h6
        · rw [if_neg h6]; exact hI
      | cons x r =>
        have e2 : q_asked σ j a t = if σ.1 6 j = 0 then s_tb (s_send (if q_bef x.2 x.1 u e = true then s_send (s_rw σ j (q_ins (σ.2.2.1 j) a t)) j x.1 6 x.2 else s_rw σ j (q_ins (σ.2.2.1 j) a t)) j e 4 u) 6 j 1 else (if q_bef x.2 x.1 u e = true then s_send (s_rw σ j (q_ins (σ.2.2.1 j) a t)) j x.1 6 x.2 else s_rw σ j (q_ins (σ.2.2.1 j) a t)) := by
          unfold q_asked; simp only [hl]; rw [if_pos hc]; simp only [hr]
        rw [e2]
        have hxa : x.1 ≠ a := rv_head (by rw [← hr]; exact hrt)
        have hF : q_bef x.2 x.1 u e = true → qInv n k c (s_send (s_rw σ j (q_ins (σ.2.2.1 j) a t)) j x.1 6 x.2) := fun hbf => by
          refine fail_inv hI hj (by rw [e1]; exact ins_mem (Or.inr (by rw [hr]; exact List.mem_cons_self))) ((hV j hj).2.2.2.2.2 e u x r hl hr hbf) (fun e' u' x' r' q1 q2 q3 => ?_)
          rw [e1] at q2
          rcases ins_head (r := σ.2.2.1 j) (a := a) (t := t) with ⟨_, hh⟩ | ⟨h0, _⟩
          · rw [hh] at q2; injection q2 with q4 q5; rw [← q4]; exact Ne.symm hxa
          · exact absurd hc.1 h0
        by_cases hbf : q_bef x.2 x.1 u e = true
        · rw [if_pos hbf]
          by_cases h6 : σ.1 6 j = 0
          · rw [if_pos h6]; exact inq_inv (hF hbf) hj hl h6
          · rw [if_neg h6]; exact hF hbf
        · rw [if_neg hbf]
          by_cases h6 : σ.1 6 j = 0
          · rw [if_pos h6]; exact inq_inv hI hj hl h6
          · rw [if_neg h6]; exact hI
    · have e2 : q_asked σ j a t = s_send (s_rw σ j (q_ins (σ.2.2.1 j) a t)) j a 6 t := by
        unfold q_asked; simp only [hl]; rw [if_neg hc]
      rw [e2]
      refine fail_inv (y := (a, t)) hI hj (by rw [e1]; exact ins_mem (Or.inl rfl)) (stale4 hst) (fun e' u' x' r' q1 q2 q3 => ?_)
      rw [e1] at q2
      have q1' : σ.2.1 j = some (e', u') := q1
      rw [hl] at q1'; injection q1' with q1'; injection q1' with q6 q7
      rcases ins_head (r := σ.2.2.1 j) (a := a) (t := t) with ⟨h0, hh⟩ | ⟨_, x0, r0, s, hr, hh⟩
      · rw [hh] at q2; injection q2 with q4 q5
        rw [← q4, ← q6, ← q7] at q3
        exact absurd ⟨h0, q3⟩ hc
      · rw [hh] at q2; injection q2 with q4 q5
        rw [← q4]
        exact rv_head (by rw [← hr]; exact hrt)
theorem home3_inv {n k c j a : Nat} {t : Int32} {σ : qSt} (hj : j < n) (ha : a < n) (hG : ∀ i j', i < n → j' < n → ¬ (i = a ∧ j' = j) → qG k σ i j') (hV : ∀ j', j' < n → qV n σ j') (hC : qClk n c σ)
    (hP : PG (inQ k a j) (σ.1 0 a).toInt (σ.1 1 a) (σ.1 2 a) (q_has (σ.1 3 a) j) (q_has (σ.1 5 a) j) (σ.1 6 j) (lv (σ.2.1 j) a) (rv (σ.2.2.1 j) a) ((3, t) :: vA σ a j) (vV σ a j)) : qInv n k c (q_home σ j a t false) := by
  obtain ⟨hb, hPI⟩ := hP.in_A rfl
  obtain ⟨hlt, hrt, hrel⟩ := hPI.released
  have hl := lv_some hlt
  have e2 : q_home σ j a t false = q_next (s_tb (s_ln σ j none) 6 j 0) j := by
    unfold q_home; rw [if_pos hl]; rfl
  rw [e2]
  refine next_inv hj (fun i j' hi hj' => ?_) (fun j' hj' he => (hV j' hj').of rfl (va_up_ne _ _ he) (tb_i he) (fun i m hm => hm)) (hC.ln.tb (by decide) (by decide) (by decide)) (va_up_self _ _ _) (Or.inl tb_s) (hV j hj).1 (hV j hj).2.2.2.2.1
  by_cases hjj : j' = j
  · subst hjj
    by_cases he : i = a
    · subst he
      exact PG.eq (lt := none) (rt := []) (A := vA σ i j') (V := vV σ i j') (M := (σ.1 0 i).toInt) ⟨Or.inl ⟨hb, hrel 0⟩, fun s hs => (by cases hs), hP.2.2⟩ (by simp [s_send, s_wr, s_tb, s_ln, s_rw, s_en, q2, va_up]) (by simp [s_send, s_wr, s_tb, s_ln, s_rw, s_en, q2, va_up]) (by simp [s_send, s_wr, s_tb, s_ln, s_rw, s_en, q2, va_up]) (by simp [s_send, s_wr, s_tb, s_ln, s_rw, s_en, q2, va_up]) (by simp [s_send, s_wr, s_tb, s_ln, s_rw, s_en, q2, va_up]) (by simp [s_send, s_wr, s_tb, s_ln, s_rw, s_en, q2, va_up]) (by show lv (va_up σ.2.1 j' _ j') i = _; rw [va_up_self]; rfl) hrt rfl rfl
    · exact (hG i j' hi hj' (fun h => he h.1)).of0 (by rw [hl]; exact lv_ne (Ne.symm he)) (by simp [s_send, s_wr, s_tb, s_ln, s_rw, s_en, q2, va_up]) (by simp [s_send, s_wr, s_tb, s_ln, s_rw, s_en, q2, va_up]) (by simp [s_send, s_wr, s_tb, s_ln, s_rw, s_en, q2, va_up]) (by simp [s_send, s_wr, s_tb, s_ln, s_rw, s_en, q2, va_up]) (by simp [s_send, s_wr, s_tb, s_ln, s_rw, s_en, q2, va_up]) (by show lv (va_up σ.2.1 j' _ j') i = _; rw [va_up_self]; rfl) rfl rfl rfl
  · exact (hG i j' hi hj' (fun h => hjj h.2)).of (by simp [s_send, s_wr, s_tb, s_ln, s_rw, s_en, q2, va_up]) (by simp [s_send, s_wr, s_tb, s_ln, s_rw, s_en, q2, va_up]) (by simp [s_send, s_wr, s_tb, s_ln, s_rw, s_en, q2, va_up]) (by simp [s_send, s_wr, s_tb, s_ln, s_rw, s_en, q2, va_up]) (by simp [s_send, s_wr, s_tb, s_ln, s_rw, s_en, q2, va_up]) (by simp [s_send, s_wr, s_tb, s_ln, s_rw, s_en, q2, va_up, hjj]) (by show lv (va_up σ.2.1 j _ j') i = _; rw [va_up_ne _ _ hjj]) rfl rfl rfl
theorem home5_inv {n k c j a : Nat} {t : Int32} {σ : qSt} (hj : j < n) (ha : a < n) (hG : ∀ i j', i < n → j' < n → ¬ (i = a ∧ j' = j) → qG k σ i j') (hV : ∀ j', j' < n → qV n σ j') (hC : qClk n c σ)
    (hP : PG (inQ k a j) (σ.1 0 a).toInt (σ.1 1 a) (σ.1 2 a) (q_has (σ.1 3 a) j) (q_has (σ.1 5 a) j) (σ.1 6 j) (lv (σ.2.1 j) a) (rv (σ.2.2.1 j) a) ((5, t) :: vA σ a j) (vV σ a j)) : qInv n k c (q_home σ j a t true) := by
  obtain ⟨hb, hPI⟩ := hP.in_A rfl
  obtain ⟨ht, hA0, hSt, hv, hq, hlt, hrt, hV0⟩ := hPI.gaveUp
  have hl := lv_some hlt
  rw [← ht] at hl
  have e2 : q_home σ j a t true = q_next (s_tb (s_ln (s_rw σ j (q_ins (σ.2.2.1 j) a t)) j none) 6 j 0) j := by
    unfold q_home; rw [if_pos hl]; rfl
  rw [e2]
  have e1 : (s_tb (s_ln (s_rw σ j (q_ins (σ.2.2.1 j) a t)) j none) 6 j 0).2.2.1 j = q_ins (σ.2.2.1 j) a t := va_up_self _ _ _
  refine next_inv hj (fun i j' hi hj' => ?_) (fun j' hj' he => (hV j' hj').of (va_up_ne _ _ he) (va_up_ne _ _ he) (tb_i he) (fun i m hm => hm)) (hC.rw.ln.tb (by decide) (by decide) (by decide)) (va_up_self _ _ _) (Or.inl tb_s) (fun x hx => ?_) (by rw [e1]; exact sorted_ins (hV j hj).2.2.2.2.1)
  · by_cases hjj : j' = j
    · subst hjj
      by_cases he : i = a
      · subst he
        exact PG.eq (lt := none) (rt := [σ.1 2 i]) (A := []) (V := []) (M := (σ.1 0 i).toInt) ⟨Or.inl ⟨hb, PInv.wait (T := σ.1 2 i) (V := []) (F := []) (0 : Int32) (Or.inl rfl) (Or.inl rfl)⟩, fun s hs => (by cases hs), fun m hm => (by cases hm)⟩ (by simp [s_send, s_wr, s_tb, s_ln, s_rw, s_en, q2, va_up]) (by rw [← hSt]; exact (by simp [s_send, s_wr, s_tb, s_ln, s_rw, s_en, q2, va_up])) (by simp [s_send, s_wr, s_tb, s_ln, s_rw, s_en, q2, va_up]) (by rw [← hv]; exact (by simp [s_send, s_wr, s_tb, s_ln, s_rw, s_en, q2, va_up])) (by rw [← hq]; exact (by simp [s_send, s_wr, s_tb, s_ln, s_rw, s_en, q2, va_up])) (by simp [s_send, s_wr, s_tb, s_ln, s_rw, s_en, q2, va_up]) (by show lv (va_up σ.2.1 j' _ j') i = _; rw [va_up_self]; rfl) (by show rv (va_up σ.2.2.1 j' _ j') i = _; rw [va_up_self, rv_ins_self hrt, ht]) hA0 hV0
      · exact (hG i j' hi hj' (fun h => he h.1)).of0 (by rw [hl]; exact lv_ne (Ne.symm he)) (by simp [s_send, s_wr, s_tb, s_ln, s_rw, s_en, q2, va_up]) (by simp [s_send, s_wr, s_tb, s_ln, s_rw, s_en, q2, va_up]) (by simp [s_send, s_wr, s_tb, s_ln, s_rw, s_en, q2, va_up]) (by simp [s_send, s_wr, s_tb, s_ln, s_rw, s_en, q2, va_up]) (by simp [s_send, s_wr, s_tb, s_ln, s_rw, s_en, q2, va_up]) (by show lv (va_up σ.2.1 j' _ j') i = _; rw [va_up_self]; rfl) (by show rv (va_up σ.2.2.1 j' _ j') i = _; rw [va_up_self, rv_ins_ne (Ne.symm he)]) rfl rfl
    · exact (hG i j' hi hj' (fun h => hjj h.2)).of (by simp [s_send, s_wr, s_tb, s_ln, s_rw, s_en, q2, va_up]) (by simp [s_send, s_wr, s_tb, s_ln, s_rw, s_en, q2, va_up]) (by simp [s_send, s_wr, s_tb, s_ln, s_rw, s_en, q2, va_up]) (by simp [s_send, s_wr, s_tb, s_ln, s_rw, s_en, q2, va_up]) (by simp [s_send, s_wr, s_tb, s_ln, s_rw, s_en, q2, va_up]) (by simp [s_send, s_wr, s_tb, s_ln, s_rw, s_en, q2, va_up, hjj]) (by show lv (va_up σ.2.1 j _ j') i = _; rw [va_up_ne _ _ hjj]) (by show rv (va_up σ.2.2.1 j _ j') i = _; rw [va_up_ne _ _ hjj]) rfl rfl
  · rw [e1] at hx
    rcases mem_ins hx with h | h
    · rw [h]; exact ha
    · exact (hV j hj).1 x h
/-! AN ASKER'S STEPS -/
theorem ask_inv {n k c i j : Nat} {σ τ : qSt} (hG : ∀ i' j', i' < n → j' < n → ¬ (i' = i ∧ j' = j) → qG k σ i' j') (hVo : ∀ j', j' < n → qV n σ j') (h0 : ∀ g i', (g = 0 ∨ g = 1 ∨ g = 2 ∨ g = 6) → τ.1 g i' = σ.1 g i') (h3 : ∀ i', i' ≠ i → τ.1 3 i' = σ.1 3 i') (h5 : ∀ i', i' ≠ i → τ.1 5 i' = σ.1 5 i') (b3 : ∀ j', j' < n → j' ≠ j → q_has (τ.1 3 i) j' = q_has (σ.1 3 i) j') (b5 : ∀ j', j' < n → j' ≠ j → q_has (τ.1 5 i) j' = q_has (σ.1 5 i) j') (hl : τ.2.1 = σ.2.1) (hr : τ.2.2.1 = σ.2.2.1) (hA : ∀ i' j', ¬ (i' = i ∧ j' = j) → vA τ i' j' = vA σ i' j') (hV : ∀ i' j', vV τ i' j' = vV σ i' j') (hij : qG k τ i j) (hC : qClk n c τ) : qInv n k c τ := by
  refine ⟨fun i' j' hi' hj' => ?_, fun j' hj' => (hVo j' hj').of (by rw [hr]) (by rw [hl]) (h0 _ _ (by decide)) (fun i' m hm => by rw [hV] at hm; exact hm), hC⟩
  by_cases he : i' = i ∧ j' = j
  · rw [he.1, he.2]; exact hij
  · refine (hG i' j' hi' hj' he).of (by rw [h0 _ _ (by decide)]; exact Int.le_refl _) (h0 _ _ (by decide)) (h0 _ _ (by decide)) ?_ ?_ (h0 _ _ (by decide)) (by rw [hl]) (by rw [hr]) (hA _ _ he) (hV _ _)
    · by_cases hi : i' = i
      · rw [hi]; exact b3 j' hj' (fun h => he ⟨hi, h⟩)
      · rw [h3 i' hi]
    · by_cases hi : i' = i
      · rw [hi]; exact b5 j' hj' (fun h => he ⟨hi, h⟩)
      · rw [h5 i' hi]
theorem or_n {x : Int32} {i j : Nat} (hi : i < 32) (hj : j < 32) (h : i ≠ j) : q_has (x ||| q_bit j) i = q_has x i := by
  rw [h_or hi, h_bit hi hj, decide_eq_false h, Bool.or_false]
theorem or_s {x : Int32} {j : Nat} (hj : j < 32) : q_has (x ||| q_bit j) j = true := by
  rw [h_or hj, h_bit hj hj, decide_eq_true rfl, Bool.or_true]
theorem and_n {x : Int32} {i j : Nat} (hi : i < 32) (hj : j < 32) (h : i ≠ j) : q_has (x &&& q_nbit j) i = q_has x i := by
  rw [h_and hi, h_nbit hi hj, decide_eq_false h, Bool.not_false, Bool.and_true]
theorem and_s {x : Int32} {j : Nat} (hj : j < 32) : q_has (x &&& q_nbit j) j = false := by
  rw [h_and hj, h_nbit hj hj, decide_eq_true rfl, Bool.not_true, Bool.and_false]
theorem giveUp_inv {n k c i j : Nat} {σ : qSt} (hn : n ≤ 16) (hi : i < n) (hj : j < n) (hG : ∀ i' j', i' < n → j' < n → ¬ (i' = i ∧ j' = j) → qG k σ i' j') (hV : ∀ j', j' < n → qV n σ j') (hC : qClk n c σ)
    (hP : PG (inQ k i j) (σ.1 0 i).toInt (σ.1 1 i) (σ.1 2 i) false false (σ.1 6 j) (lv (σ.2.1 j) i) (rv (σ.2.2.1 j) i) (vA σ i j ++ [(5, σ.1 2 i)]) (vV σ i j)) : qInv n k c (q_giveUp σ i j) := by
  have hA : isA 5 = true := by decide
  have eA : ∀ i' j', vA (q_giveUp σ i j) i' j' = if i' = i ∧ j' = j then vA σ i' j' ++ [(5, σ.1 2 i)] else vA σ i' j' := fun i' j' => by
    show vA (s_send σ i j 5 (σ.1 2 i)) i' j' = _
    exact vA_sendA hA _ _
  have eV : ∀ i' j', vV (q_giveUp σ i j) i' j' = vV σ i' j' := fun i' j' => by
    show vV (s_send σ i j 5 (σ.1 2 i)) i' j' = _
    exact vV_sendA hA _ _
  have e3 : (q_giveUp σ i j).1 3 i = σ.1 3 i &&& q_nbit j := (by simp [q_giveUp, s_send, s_wr, s_tb, s_ln, s_rw, s_en, q2, va_up])
  have e5 : (q_giveUp σ i j).1 5 i = σ.1 5 i &&& q_nbit j := (by simp [q_giveUp, s_send, s_wr, s_tb, s_ln, s_rw, s_en, q2, va_up])
  have e0 : ∀ g i', (g = 0 ∨ g = 1 ∨ g = 2 ∨ g = 6) → (q_giveUp σ i j).1 g i' = σ.1 g i' := fun g i' hg => by
    rcases hg with rfl | rfl | rfl | rfl <;> exact (by simp [q_giveUp, s_send, s_wr, s_tb, s_ln, s_rw, s_en, q2, va_up])
  refine ask_inv (i := i) (j := j) hG hV e0 (fun i' h => (by simp [q_giveUp, s_send, s_wr, s_tb, s_ln, s_rw, s_en, q2, va_up, h])) (fun i' h => (by simp [q_giveUp, s_send, s_wr, s_tb, s_ln, s_rw, s_en, q2, va_up, h])) (fun j' hj' h => by rw [e3]; exact and_n (by omega) (by omega) h) (fun j' hj' h => by rw [e5]; exact and_n (by omega) (by omega) h) rfl rfl (fun i' j' h => by rw [eA, if_neg h]) eV ?_ ?_
  · exact PG.eq hP (by rw [e0 0 i (by decide)]; exact Int.le_refl _) (e0 1 i (by decide)) (e0 2 i (by decide)) (by rw [e3]; exact and_s (by omega)) (by rw [e5]; exact and_s (by omega)) (e0 6 j (by decide)) rfl rfl (by rw [eA, if_pos ⟨rfl, rfl⟩]) (eV _ _)
  · refine qClk.tb (qClk.tb (qClk.tb3 (hC.send hi (by unfold qKn; decide)) (fun _ j' h1 h2 => ?_)) (by decide) (by decide) (by decide)) (by decide) (by decide) (by decide)
    rw [h_and h2, (hC.1 i hi).2.2.2 j' h1 h2]; rfl
theorem gives_inv {n k c i : Nat} (hn : n ≤ 16) (hi : i < n) : ∀ (m j : Nat) (σ : qSt), j + m ≤ n → qInv n k c σ → σ.1 1 i = 1 → qInv n k c (q_gives i m j σ)
  | 0, _, _, _, h, _ => h
  | m + 1, j, σ, hm, h, h1 => by
    unfold q_gives
    by_cases hc : q_has (σ.1 3 i &&& σ.1 5 i) j = true
    · rw [if_pos hc]
      refine gives_inv hn hi m (j + 1) _ (by omega) ?_ ?_
      · rw [h_and (by omega), Bool.and_eq_true] at hc
        have hp := h.1 i j hi (by omega)
        unfold qG at hp
        obtain ⟨hb, hPI⟩ := hp.in_v hc.1
        rw [h1, hc.1, hc.2] at hPI
        refine giveUp_inv hn hi (by omega) (fun i' j' h2 h3 _ => h.1 i' j' h2 h3) h.2.1 h.2.2 ⟨Or.inl ⟨hb, ?_⟩, hp.2⟩
        rw [h1]; exact hPI.giveUp
      · rw [← h1]; exact (by simp [q_giveUp, s_send, s_wr, s_tb, s_ln, s_rw, s_en, q2, va_up])
    · rw [if_neg hc]
      exact gives_inv hn hi m (j + 1) _ (by omega) h h1
theorem locked_inv {n k c i j : Nat} {t : Int32} {σ : qSt} (hn : n ≤ 16) (hi : i < n) (hj : j < n) (hG : ∀ i' j', i' < n → j' < n → ¬ (i' = i ∧ j' = j) → qG k σ i' j') (hV : ∀ j', j' < n → qV n σ j') (hC : qClk n c σ)
    (hP : PG (inQ k i j) (σ.1 0 i).toInt (σ.1 1 i) (σ.1 2 i) (q_has (σ.1 3 i) j) (q_has (σ.1 5 i) j) (σ.1 6 j) (lv (σ.2.1 j) i) (rv (σ.2.2.1 j) i) (vA σ i j) ((2, t) :: vV σ i j)) : qInv n k c (q_locked σ i j t) := by
  obtain ⟨hb, hPI⟩ := hP.in_V rfl
  obtain ⟨ht, hSt, hX⟩ := hPI.locked
  have e2 : q_locked σ i j t = s_tb (s_tb σ 3 i (σ.1 3 i ||| q_bit j)) 4 i (σ.1 4 i &&& q_nbit j) := by
    unfold q_locked; rw [if_pos ⟨by rw [hSt]; decide, ht.symm⟩]
  rw [e2]
  have e3 : (s_tb (s_tb σ 3 i (σ.1 3 i ||| q_bit j)) 4 i (σ.1 4 i &&& q_nbit j)).1 3 i = σ.1 3 i ||| q_bit j := (by simp [s_send, s_wr, s_tb, s_ln, s_rw, s_en, q2, va_up])
  have e0 : ∀ g i', (g = 0 ∨ g = 1 ∨ g = 2 ∨ g = 6) → (s_tb (s_tb σ 3 i (σ.1 3 i ||| q_bit j)) 4 i (σ.1 4 i &&& q_nbit j)).1 g i' = σ.1 g i' := fun g i' hg => by
    rcases hg with rfl | rfl | rfl | rfl <;> exact (by simp [s_send, s_wr, s_tb, s_ln, s_rw, s_en, q2, va_up])
  refine ask_inv (i := i) (j := j) hG hV e0 (fun i' h => (by simp [s_send, s_wr, s_tb, s_ln, s_rw, s_en, q2, va_up, h])) (fun i' h => (by simp [s_send, s_wr, s_tb, s_ln, s_rw, s_en, q2, va_up, h])) (fun j' hj' h => by rw [e3]; exact or_n (by omega) (by omega) h) (fun j' hj' h => (by simp [s_send, s_wr, s_tb, s_ln, s_rw, s_en, q2, va_up])) rfl rfl (fun i' j' h => rfl) (fun _ _ => rfl) ?_ ?_
  · exact PG.eq (V := vV σ i j) (M := (σ.1 0 i).toInt) ⟨Or.inl ⟨hb, hX⟩, hP.2.1, fun m hm => hP.2.2 m (List.mem_cons.2 (Or.inr hm))⟩ (by rw [e0 0 i (by decide)]; exact Int.le_refl _) (e0 1 i (by decide)) (e0 2 i (by decide)) (by rw [e3]; exact or_s (by omega)) (by simp [s_send, s_wr, s_tb, s_ln, s_rw, s_en, q2, va_up]) (e0 6 j (by decide)) rfl rfl rfl rfl
  · refine qClk.tb (qClk.tb3 hC (fun _ j' h1 h2 => ?_)) (by decide) (by decide) (by decide)
    rw [or_n h2 (by omega) (by omega)]; exact (hC.1 i hi).2.2.2 j' h1 h2
theorem failed_inv {n k c i j : Nat} {t : Int32} {σ : qSt} (hn : n ≤ 16) (hi : i < n) (hj : j < n) (hG : ∀ i' j', i' < n → j' < n → ¬ (i' = i ∧ j' = j) → qG k σ i' j') (hV : ∀ j', j' < n → qV n σ j') (hC : qClk n c σ)
    (hP : PG (inQ k i j) (σ.1 0 i).toInt (σ.1 1 i) (σ.1 2 i) (q_has (σ.1 3 i) j) (q_has (σ.1 5 i) j) (σ.1 6 j) (lv (σ.2.1 j) i) (rv (σ.2.2.1 j) i) (vA σ i j) ((6, t) :: vV σ i j)) : qInv n k c (q_failed n σ i j t) := by
  obtain ⟨hb, hPI⟩ := hP.in_V rfl
  obtain ⟨ht, hSt, hX⟩ := hPI.heardF
  have e2 : q_failed n σ i j t = q_gives i n 0 (s_tb σ 4 i (σ.1 4 i ||| q_bit j)) := by
    unfold q_failed; rw [if_pos ⟨hSt, ht.symm⟩]
  rw [e2]
  have e0 : ∀ g i', (g = 0 ∨ g = 1 ∨ g = 2 ∨ g = 6) → (s_tb σ 4 i (σ.1 4 i ||| q_bit j)).1 g i' = σ.1 g i' := fun g i' hg => by
    rcases hg with rfl | rfl | rfl | rfl <;> exact (by simp [s_send, s_wr, s_tb, s_ln, s_rw, s_en, q2, va_up])
  refine gives_inv hn hi n 0 _ (by omega) (ask_inv (i := i) (j := j) hG hV e0 (fun i' h => (by simp [s_send, s_wr, s_tb, s_ln, s_rw, s_en, q2, va_up, h])) (fun i' h => (by simp [s_send, s_wr, s_tb, s_ln, s_rw, s_en, q2, va_up, h])) (fun j' hj' h => (by simp [s_send, s_wr, s_tb, s_ln, s_rw, s_en, q2, va_up])) (fun j' hj' h => (by simp [s_send, s_wr, s_tb, s_ln, s_rw, s_en, q2, va_up])) rfl rfl (fun i' j' h => rfl) (fun _ _ => rfl) ?_ (hC.tb (by decide) (by decide) (by decide))) (by rw [e0 1 i (by decide)]; exact hSt)
  exact PG.eq (V := vV σ i j) (M := (σ.1 0 i).toInt) ⟨Or.inl ⟨hb, hX⟩, hP.2.1, fun m hm => hP.2.2 m (List.mem_cons.2 (Or.inr hm))⟩ (by rw [e0 0 i (by decide)]; exact Int.le_refl _) (e0 1 i (by decide)) (e0 2 i (by decide)) (by simp [s_send, s_wr, s_tb, s_ln, s_rw, s_en, q2, va_up]) (by simp [s_send, s_wr, s_tb, s_ln, s_rw, s_en, q2, va_up]) (e0 6 j (by decide)) rfl rfl rfl rfl
theorem inquire_inv {n k c i j : Nat} {t : Int32} {σ : qSt} (hn : n ≤ 16) (hi : i < n) (hj : j < n) (hG : ∀ i' j', i' < n → j' < n → ¬ (i' = i ∧ j' = j) → qG k σ i' j') (hV : ∀ j', j' < n → qV n σ j') (hC : qClk n c σ)
    (hP : PG (inQ k i j) (σ.1 0 i).toInt (σ.1 1 i) (σ.1 2 i) (q_has (σ.1 3 i) j) (q_has (σ.1 5 i) j) (σ.1 6 j) (lv (σ.2.1 j) i) (rv (σ.2.2.1 j) i) (vA σ i j) ((4, t) :: vV σ i j)) : qInv n k c (q_inquire σ i j t) := by
  obtain ⟨hb, hPI⟩ := hP.in_V rfl
  by_cases hc : (σ.1 1 i = 1 ∧ σ.1 2 i = t) ∧ q_has (σ.1 3 i) j = true
  · have hPJ := hPI
    rw [hc.1.1, hc.2] at hPJ
    obtain ⟨ht, hV0, hlt, hrt, hA0, hiq, hq⟩ := hPJ.askedBack
    by_cases h4 : σ.1 4 i ≠ 0
    · have e2 : q_inquire σ i j t = q_giveUp σ i j := by unfold q_inquire; rw [if_pos hc, if_pos h4]
      rw [e2]
      refine giveUp_inv hn hi hj hG hV hC (PG.eq (M := (σ.1 0 i).toInt) (V := []) ⟨Or.inl ⟨hb, PInv.giveI (T := σ.1 2 i)⟩, fun s hs => hP.2.1 s (by rw [hlt]; exact hs), fun m hm => (by cases hm)⟩ (Int.le_refl _) hc.1.1 rfl rfl rfl hiq hlt hrt (by rw [hA0]; rfl) hV0)
    · have e2 : q_inquire σ i j t = s_tb σ 5 i (σ.1 5 i ||| q_bit j) := by unfold q_inquire; rw [if_pos hc, if_neg h4]
      rw [e2]
      have e5 : (s_tb σ 5 i (σ.1 5 i ||| q_bit j)).1 5 i = σ.1 5 i ||| q_bit j := tb_s
      have e0 : ∀ g i', (g = 0 ∨ g = 1 ∨ g = 2 ∨ g = 6) → (s_tb σ 5 i (σ.1 5 i ||| q_bit j)).1 g i' = σ.1 g i' := fun g i' hg => by
        rcases hg with rfl | rfl | rfl | rfl <;> exact (by simp [s_send, s_wr, s_tb, s_ln, s_rw, s_en, q2, va_up])
      refine ask_inv (i := i) (j := j) hG hV e0 (fun i' h => (by simp [s_send, s_wr, s_tb, s_ln, s_rw, s_en, q2, va_up, h])) (fun i' h => (by simp [s_send, s_wr, s_tb, s_ln, s_rw, s_en, q2, va_up, h])) (fun j' hj' h => (by simp [s_send, s_wr, s_tb, s_ln, s_rw, s_en, q2, va_up])) (fun j' hj' h => by rw [e5]; exact or_n (by omega) (by omega) h) rfl rfl (fun i' j' h => rfl) (fun _ _ => rfl) ?_ (hC.tb (by decide) (by decide) (by decide))
      exact PG.eq (M := (σ.1 0 i).toInt) (V := []) ⟨Or.inl ⟨hb, PInv.keepI (T := σ.1 2 i)⟩, fun s hs => hP.2.1 s (by rw [hlt]; exact hs), fun m hm => (by cases hm)⟩ (by rw [e0 0 i (by decide)]; exact Int.le_refl _) (by rw [e0 1 i (by decide)]; exact hc.1.1) (e0 2 i (by decide)) (by rw [← hc.2]; exact (by simp [s_send, s_wr, s_tb, s_ln, s_rw, s_en, q2, va_up])) (by rw [e5]; exact or_s (by omega)) (by rw [e0 6 j (by decide)]; exact hiq) hlt hrt hA0 hV0
  · have e2 : q_inquire σ i j t = σ := by unfold q_inquire; rw [if_neg hc]
    rw [e2]
    refine ask_inv (i := i) (j := j) (σ := σ) hG hV (fun _ _ _ => rfl) (fun _ _ => rfl) (fun _ _ => rfl) (fun _ _ _ => rfl) (fun _ _ _ => rfl) rfl rfl (fun _ _ _ => rfl) (fun _ _ => rfl) ?_ hC
    exact ⟨Or.inl ⟨hb, hPI.heardI hc⟩, hP.2.1, fun m hm => hP.2.2 m (List.mem_cons.2 (Or.inr hm))⟩
