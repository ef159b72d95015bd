/-! A VOTER'S STEPS -/
theorem fail_inv {n k c j : Nat} {σ : qSt} {y : Nat × Int32} (h : qInv n k c σ) (hj : j < n) (hy : y ∈ σ.2.2.1 j) (h6 : ∀ m ∈ vV σ y.1 j, m.1 ≠ 6) (hp : ∀ (e : Nat) (u : Int32) (x : Nat × Int32) (r : List (Nat × Int32)), σ.2.1 j = some (e, u) → σ.2.2.1 j = x :: r → q_bef x.2 x.1 u e = true → x.1 ≠ y.1) : qInv n k c (s_send σ j y.1 6 y.2) := by
  have hA : isA 6 = false := by decide
  refine ⟨fun i j' hi hj' => ?_, fun j' hj' => ?_, h.2.2.send hj (by unfold qKn; decide)⟩
  · by_cases he : j' = j ∧ i = y.1
    · obtain ⟨e1, e2⟩ := he
      subst e1; subst e2
      have h1 := h.1 y.1 j' hi hj'
      have h2 := PG.one h1 (rv_mem hy)
      unfold qG at h1
      rw [h2] at h1
      exact PG.eq (h1.failed (h.2.2.1 y.1 hi).2.2.1 h6) (Int.le_refl _) rfl rfl rfl rfl rfl rfl h2 (vA_sendV hA _ _) (by rw [vV_sendV hA, if_pos ⟨rfl, rfl⟩])
    · exact (h.1 i j' hi hj').of (Int.le_refl _) rfl rfl rfl rfl rfl rfl rfl (vA_sendV hA _ _) (by rw [vV_sendV hA, if_neg he])
  · by_cases he : j' = j
    · subst he
      obtain ⟨g1, g2, g3, g4, g5, g6⟩ := h.2.1 j' hj'
      refine ⟨g1, g2, g3, g4, g5, fun e u x r q1 q2 q3 m hm => ?_⟩
      rw [vV_sendV hA, if_neg (fun hh => hp e u x r q1 q2 q3 hh.2)] at hm
      exact g6 e u x r q1 q2 q3 m hm
    · exact (h.2.1 j' hj').of rfl rfl rfl (fun i m hm => by rw [vV_sendV hA, if_neg (fun hh => he hh.1)] at hm; exact hm)
theorem inq_inv {n k c j e : Nat} {u : Int32} {σ : qSt} (h : qInv n k c σ) (hj : j < n) (hl : σ.2.1 j = some (e, u)) (hq : σ.1 6 j = 0) : qInv n k c (s_tb (s_send σ j e 4 u) 6 j 1) := by
  have hA : isA 4 = false := by decide
  have eA : ∀ i' j', vA (s_tb (s_send σ j e 4 u) 6 j 1) i' j' = vA σ i' j' := fun i' j' => by
    show vA (s_send σ j e 4 u) i' j' = _
    exact vA_sendV hA _ _
  have eV : ∀ i' j', vV (s_tb (s_send σ j e 4 u) 6 j 1) i' j' = if j' = j ∧ i' = e then vV σ i' j' ++ [(4, u)] else vV σ i' j' := fun i' j' => by
    show vV (s_send σ j e 4 u) i' j' = _
    exact vV_sendV hA _ _
  refine ⟨fun i j' hi hj' => ?_, fun j' hj' => ?_, (h.2.2.send hj (by unfold qKn; decide)).tb (by decide) (by decide) (by decide)⟩
  · by_cases hjj : j' = j
    · subst hjj
      by_cases he : i = e
      · subst he
        have h1 := h.1 i j' hi hj'
        unfold qG at h1
        rw [hl, lv_self, hq] at h1
        exact PG.eq h1.inquire (by simp [s_send, s_wr, s_tb, s_ln, s_rw, s_en, q2, va_up]) (by simp [s_send, s_wr, s_tb, s_ln, s_rw, s_en, q2, va_up]) (by simp [s_send, s_wr, s_tb, s_ln, s_rw, s_en, q2, va_up]) (by simp [s_send, s_wr, s_tb, s_ln, s_rw, s_en, q2, va_up]) (by simp [s_send, s_wr, s_tb, s_ln, s_rw, s_en, q2, va_up]) (by simp [s_send, s_wr, s_tb, s_ln, s_rw, s_en, q2, va_up]) (by show lv (σ.2.1 j') i = _; rw [hl, lv_self]) rfl (eA _ _) (by rw [eV, if_pos ⟨rfl, rfl⟩])
      · exact (h.1 i j' hi hj').of0 (by rw [hl]; exact lv_ne (Ne.symm he)) (by simp [s_send, s_wr, s_tb, s_ln, s_rw, s_en, q2, va_up]) (by simp [s_send, s_wr, s_tb, s_ln, s_rw, s_en, q2, va_up]) (by simp [s_send, s_wr, s_tb, s_ln, s_rw, s_en, q2, va_up]) (by simp [s_send, s_wr, s_tb, s_ln, s_rw, s_en, q2, va_up]) (by simp [s_send, s_wr, s_tb, s_ln, s_rw, s_en, q2, va_up]) (by show lv (σ.2.1 j') i = _; rw [hl]; exact lv_ne (Ne.symm he)) rfl (eA _ _) (by rw [eV, if_neg (fun hh => he hh.2)])
    · exact (h.1 i j' hi hj').of (by simp [s_send, s_wr, s_tb, s_ln, s_rw, s_en, q2, va_up]) (by simp [s_send, s_wr, s_tb, s_ln, s_rw, s_en, q2, va_up]) (by simp [s_send, s_wr, s_tb, s_ln, s_rw, s_en, q2, va_up]) (by simp [s_send, s_wr, s_tb, s_ln, s_rw, s_en, q2, va_up]) (by simp [s_send, s_wr, s_tb, s_ln, s_rw, s_en, q2, va_up]) (by simp [s_send, s_wr, s_tb, s_ln, s_rw, s_en, q2, va_up, hjj]) rfl rfl (eA _ _) (by rw [eV, if_neg (fun hh => hjj hh.1)])
  · by_cases he : j' = j
    · subst he
      obtain ⟨g1, g2, g3, g4, g5, g6⟩ := h.2.1 j' hj'
      refine ⟨g1, g2, Or.inr tb_s, g4, g5, fun e u x r q1 q2 q3 m hm => ?_⟩
      rw [eV] at hm
      split at hm
      · rcases List.mem_append.1 hm with hm | hm
        · exact g6 e u x r q1 q2 q3 m hm
        · rw [List.mem_singleton.1 hm]; show (4 : Int32) ≠ 6; decide
      · exact g6 e u x r q1 q2 q3 m hm
    · exact (h.2.1 j' hj').of rfl rfl (by simp [s_send, s_wr, s_tb, s_ln, s_rw, s_en, q2, va_up, he]) (fun i m hm => by rw [eV, if_neg (fun hh => he hh.1)] at hm; exact hm)
theorem stale4 {T : Int32} {V : List (Int32 × Int32)} (h : p_stale T V) : ∀ m ∈ V, m.1 ≠ 6 := fun m hm => by
  rcases h with h | ⟨t, -, h⟩
  · rw [h] at hm; cases hm
  · rw [h] at hm; rw [List.mem_singleton.1 hm]; show (4 : Int32) ≠ 6; decide
theorem ins_inv {n k c j a e : Nat} {t u : Int32} {σ : qSt} (hj : j < n) (ha : a < n) (hG : ∀ i j', i < n → j' < n → ¬ (i = a ∧ j' = j) → qG k σ i j') (hV : ∀ j', j' < n → qV n σ j') (hC : qClk n c σ)
    (hP : PG (inQ k a j) (σ.1 0 a).toInt (σ.1 1 a) (σ.1 2 a) (q_has (σ.1 3 a) j) (q_has (σ.1 5 a) j) (σ.1 6 j) (lv (σ.2.1 j) a) (rv (σ.2.2.1 j) a) ((1, t) :: vA σ a j) (vV σ a j)) (hl : σ.2.1 j = some (e, u)) : qInv n k c (s_rw σ j (q_ins (σ.2.2.1 j) a t)) := by
  obtain ⟨hb, hPI⟩ := hP.in_A rfl
  obtain ⟨ht, hA0, hSt, hv, hq, hlt, hrt, hst⟩ := hPI.asked
  refine ⟨fun i j' hi hj' => ?_, fun j' hj' => ?_, hC⟩
  · by_cases he : i = a ∧ j' = j
    · obtain ⟨e1, e2⟩ := he
      subst e1; subst e2
      have hw := PInv.wait (σ.1 6 j') hst (Or.inl rfl : p_fail (σ.1 2 i) [])
      rw [List.append_nil] at hw
      exact PG.eq (St := 1) (T := σ.1 2 i) (v := false) (q := false) (iq := σ.1 6 j') (lt := none) (rt := [σ.1 2 i]) (A := []) (V := vV σ i j') ⟨Or.inl ⟨hb, hw⟩, fun s hs => (by cases hs), hP.2.2⟩ (Int.le_refl _) hSt rfl hv hq rfl hlt (by show rv (va_up σ.2.2.1 j' _ j') i = _; rw [va_up_self, rv_ins_self hrt, ht]) hA0 rfl
    · refine (hG i j' hi hj' he).of (Int.le_refl _) rfl rfl rfl rfl rfl rfl ?_ rfl rfl
      show rv (va_up σ.2.2.1 j _ j') i = _
      by_cases hjj : j' = j
      · subst hjj
        rw [va_up_self, rv_ins_ne (fun h => he ⟨h.symm, rfl⟩)]
      · rw [va_up_ne _ _ hjj]
  · by_cases he : j' = j
    · subst he
      obtain ⟨g1, g2, g3, g4, g5, g6⟩ := hV j' hj'
      unfold qV
      rw [show (s_rw σ j' (q_ins (σ.2.2.1 j') a t)).2.2.1 j' = q_ins (σ.2.2.1 j') a t from va_up_self _ _ _]
      refine ⟨fun x hx => ?_, g2, g3, fun h0 => ?_, sorted_ins g5, fun e' u' x r q1 q2 q3 m hm => ?_⟩
      · rcases mem_ins hx with h | h
        · rw [h]; exact ha
        · exact g1 x h
      · rw [show (s_rw σ j' (q_ins (σ.2.2.1 j') a t)).2.1 j' = σ.2.1 j' from rfl, hl] at h0; cases h0
      · change m ∈ vV σ x.1 j' at hm
        rcases ins_head (r := σ.2.2.1 j') (a := a) (t := t) with ⟨_, hh⟩ | ⟨_, x0, r', s, hr, hh⟩
        · rw [hh] at q2; injection q2 with q4 q5
          rw [← q4] at hm
          exact stale4 hst m hm
        · rw [hh] at q2; injection q2 with q4 q5
          rw [q4] at hr
          exact g6 e' u' x r' q1 hr q3 m hm
    · exact (hV j' hj').of (va_up_ne _ _ he) rfl rfl (fun i m hm => hm)
theorem lend_inv {n k c j a : Nat} {t : Int32} {σ : qSt} (hj : j < n) (ha : a < n) (hG : ∀ i j', i < n → j' < n → ¬ (i = a ∧ j' = j) → qG k σ i j') (hV : ∀ j', j' < n → j' ≠ j → qV n σ j') (hC : qClk n c σ)
    (hP : PG (inQ k a j) (σ.1 0 a).toInt (σ.1 1 a) (σ.1 2 a) (q_has (σ.1 3 a) j) (q_has (σ.1 5 a) j) 0 (some t) (rv (σ.2.2.1 j) a) (vA σ a j) (vV σ a j ++ [(2, t)])) (hl : σ.2.1 j = none) (hr : ∀ x ∈ σ.2.2.1 j, x.1 < n ∧ q_bef x.2 x.1 t a = false) (hs : List.Pairwise nb (σ.2.2.1 j)) : qInv n k c (q_lend σ j a t) := by
  have hA : isA 2 = false := by decide
  have eA : ∀ i' j', vA (q_lend σ j a t) i' j' = vA σ i' j' := fun i' j' => vA_sendV (σ := s_tb (s_ln σ j (some (a, t))) 6 j 0) hA _ _
  have eV : ∀ i' j', vV (q_lend σ j a t) i' j' = if j' = j ∧ i' = a then vV σ i' j' ++ [(2, t)] else vV σ i' j' := fun i' j' => vV_sendV (σ := s_tb (s_ln σ j (some (a, t))) 6 j 0) hA _ _
  refine ⟨fun i j' hi hj' => ?_, fun j' hj' => ?_, (hC.ln.tb (by decide) (by decide) (by decide)).send hj (by unfold qKn; decide)⟩
  · by_cases he : i = a ∧ j' = j
    · obtain ⟨e1, e2⟩ := he
      subst e1; subst e2
      exact PG.eq hP (by simp [q_lend, s_send, s_wr, s_tb, s_ln, s_rw, s_en, q2, va_up]) (by simp [q_lend, s_send, s_wr, s_tb, s_ln, s_rw, s_en, q2, va_up]) (by simp [q_lend, s_send, s_wr, s_tb, s_ln, s_rw, s_en, q2, va_up]) (by simp [q_lend, s_send, s_wr, s_tb, s_ln, s_rw, s_en, q2, va_up]) (by simp [q_lend, s_send, s_wr, s_tb, s_ln, s_rw, s_en, q2, va_up]) (by simp [q_lend, s_send, s_wr, s_tb, s_ln, s_rw, s_en, q2, va_up]) (by show lv (va_up σ.2.1 j' _ j') i = _; rw [va_up_self, lv_self]) rfl (eA _ _) (by rw [eV, if_pos ⟨rfl, rfl⟩])
    · by_cases hjj : j' = j
      · subst hjj
        have hai : a ≠ i := fun h => he ⟨h.symm, rfl⟩
        exact (hG i j' hi hj' he).of0 (by rw [hl]; rfl) (by simp [q_lend, s_send, s_wr, s_tb, s_ln, s_rw, s_en, q2, va_up]) (by simp [q_lend, s_send, s_wr, s_tb, s_ln, s_rw, s_en, q2, va_up]) (by simp [q_lend, s_send, s_wr, s_tb, s_ln, s_rw, s_en, q2, va_up]) (by simp [q_lend, s_send, s_wr, s_tb, s_ln, s_rw, s_en, q2, va_up]) (by simp [q_lend, s_send, s_wr, s_tb, s_ln, s_rw, s_en, q2, va_up]) (by show lv (va_up σ.2.1 j' _ j') i = _; rw [va_up_self, lv_ne hai]) rfl (eA _ _) (by rw [eV, if_neg (fun hh => hai hh.2.symm)])
      · exact (hG i j' hi hj' he).of (by simp [q_lend, s_send, s_wr, s_tb, s_ln, s_rw, s_en, q2, va_up]) (by simp [q_lend, s_send, s_wr, s_tb, s_ln, s_rw, s_en, q2, va_up]) (by simp [q_lend, s_send, s_wr, s_tb, s_ln, s_rw, s_en, q2, va_up]) (by simp [q_lend, s_send, s_wr, s_tb, s_ln, s_rw, s_en, q2, va_up]) (by simp [q_lend, s_send, s_wr, s_tb, s_ln, s_rw, s_en, q2, va_up]) (by simp [q_lend, s_send, s_wr, s_tb, s_ln, s_rw, s_en, q2, va_up, hjj]) (by show lv (va_up σ.2.1 j _ j') i = _; rw [va_up_ne _ _ hjj]) rfl (eA _ _) (by rw [eV, if_neg (fun hh => hjj hh.1)])
  · by_cases he : j' = j
    · subst he
      have e1 : (q_lend σ j' a t).2.1 j' = some (a, t) := va_up_self _ _ _
      have e2 : (q_lend σ j' a t).1 6 j' = 0 := (by simp [q_lend, s_send, s_wr, s_tb, s_ln, s_rw, s_en, q2, va_up])
      unfold qV
      rw [e1, e2]
      refine ⟨fun x hx => (hr x hx).1, fun x hx => ?_, Or.inl rfl, fun h => (by cases h), hs, fun e u x r q1 q2 q3 => ?_⟩
      · injection hx with hx; rw [← hx]; exact ha
      · injection q1 with q1; injection q1 with q4 q5
        have q6 : σ.2.2.1 j' = x :: r := q2
        have := (hr x (by rw [q6]; exact List.mem_cons_self)).2
        rw [q4, q5] at this
        rw [this] at q3; cases q3
    · exact (hV j' hj' he).of rfl (va_up_ne _ _ he) (by simp [q_lend, s_send, s_wr, s_tb, s_ln, s_rw, s_en, q2, va_up, he]) (fun i m hm => by rw [eV, if_neg (fun hh => he hh.1)] at hm; exact hm)
theorem next_inv {n k c j : Nat} {σ : qSt} (hj : j < n) (hG : ∀ i j', i < n → j' < n → qG k σ i j') (hV : ∀ j', j' < n → j' ≠ j → qV n σ j') (hC : qClk n c σ) (hl : σ.2.1 j = none) (hq : σ.1 6 j = 0 ∨ σ.1 6 j = 1) (hr : ∀ x ∈ σ.2.2.1 j, x.1 < n) (hs : List.Pairwise nb (σ.2.2.1 j)) : qInv n k c (q_next σ j) := by
  unfold q_next
  cases hrow : σ.2.2.1 j with
  | nil =>
    refine ⟨hG, fun j' hj' => ?_, hC⟩
    by_cases he : j' = j
    · subst he
      refine ⟨hr, fun x hx => ?_, hq, fun _ => hrow, hs, fun e u x r q1 q2 => ?_⟩
      · rw [hl] at hx; cases hx
      · rw [hl] at q1; cases q1
    · exact hV j' hj' he
  | cons x r =>
    have e1 : (s_rw σ j r).2.2.1 j = r := va_up_self _ _ _
    have hx : x.1 < n := hr x (by rw [hrow]; exact List.mem_cons_self)
    rw [hrow] at hs hr
    obtain ⟨hs1, hs2⟩ := List.pairwise_cons.1 hs
    have hxj := hG x.1 j hx hj
    have hone := PG.one hxj (rv_mem (by rw [hrow]; exact List.mem_cons_self))
    have hr0 : rv r x.1 = [] := by
      rw [hrow, rv_self] at hone
      injection hone
    unfold qG at hxj
    rw [hone] at hxj
    refine lend_inv hj hx (fun i j' hi hj' he => ?_) (fun j' hj' he => (hV j' hj' he).of (va_up_ne _ _ he) rfl rfl (fun i m hm => hm)) hC.rw ?_ hl (fun y hy => ?_) (by rw [e1]; exact hs2)
    · refine (hG i j' hi hj').of (Int.le_refl _) rfl rfl rfl rfl rfl rfl ?_ rfl rfl
      show rv (va_up σ.2.2.1 j _ j') i = _
      by_cases hjj : j' = j
      · subst hjj
        rw [va_up_self, hrow, rv_ne (fun h => he ⟨h.symm, rfl⟩)]
      · rw [va_up_ne _ _ hjj]
    · rw [e1, hr0]
      exact hxj.lendW (hC.1 x.1 hx).2.2.1
    · rw [e1] at hy
      exact ⟨hr y (List.mem_cons.2 (Or.inr hy)), hs1 y hy⟩
