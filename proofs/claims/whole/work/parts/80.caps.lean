/-! WHAT THE INVARIANT SAYS -/
theorem quo_len : ∀ k, k < 5 → ∀ j, j < 16 → j < k * k → ((List.range (k * k)).filter (fun i => decide (j / k = i / k ∨ j % k = i % k))).length ≤ 2 * k - 1 := by decide +kernel
theorem rv_nodup : ∀ r : List (Nat × Int32), (∀ x ∈ r, (rv r x.1).length ≤ 1) → (r.map Prod.fst).Nodup
  | [], _ => List.Pairwise.nil
  | x :: r, h => by
    have hx := h x List.mem_cons_self
    rw [rv_self] at hx
    have hr0 : rv r x.1 = [] := by
      cases hr : rv r x.1 with
      | nil => rfl
      | cons y l => rw [hr] at hx; simp at hx
    rw [List.map_cons, List.nodup_cons]
    refine ⟨fun hm => ?_, rv_nodup r (fun y hy => ?_)⟩
    · obtain ⟨y, hy, he⟩ := List.mem_map.1 hm
      have := rv_mem hy
      rw [he, hr0] at this; cases this
    · have h2 := h y (List.mem_cons.2 (Or.inr hy))
      by_cases he : x.1 = y.1
      · rw [← he, hr0]; exact Nat.zero_le _
      · rw [rv_ne he] at h2; exact h2
theorem row_short {n k c j : Nat} {σ : qSt} (hq : qSq n k) (h : qInv n k c σ) (hj : j < n) : (σ.2.2.1 j).length < 2 * k - 1 := by
  have hn16 := hq.n.2
  obtain ⟨hnk, hk1, hk4⟩ := hq
  cases hr : σ.2.2.1 j with
  | nil => show 0 < _; omega
  | cons x r =>
    have hv := h.2.1 j hj
    cases hl : σ.2.1 j with
    | none => rw [hv.2.2.2.1 hl] at hr; cases hr
    | some eu =>
      obtain ⟨e, u⟩ := eu
      have he : e < n := hv.2.1 (e, u) hl
      have hge := h.1 e j he hj
      have hle : lv (σ.2.1 j) e = some u := by rw [hl, lv_self]
      have hre : rv (σ.2.2.1 j) e = [] := hge.few.2.2.2 (by rw [hle]; exact fun h => by cases h)
      have hnd : (e :: (σ.2.2.1 j).map Prod.fst).Nodup := by
        rw [List.nodup_cons]
        refine ⟨fun hm => ?_, rv_nodup _ (fun y hy => (h.1 y.1 j (hv.1 y hy) hj).few.2.2.1)⟩
        obtain ⟨y, hy, hye⟩ := List.mem_map.1 hm
        have := rv_mem hy
        rw [hye, hre] at this; cases this
      have hsub : (e :: (σ.2.2.1 j).map Prod.fst) ⊆ (List.range (k * k)).filter (fun i => decide (j / k = i / k ∨ j % k = i % k)) := fun z hz => by
        rw [List.mem_filter, List.mem_range, decide_eq_true_eq]
        rcases List.mem_cons.1 hz with h1 | h1
        · rw [h1]; exact ⟨by omega, (hge.in_l hle).1⟩
        · obtain ⟨y, hy, hye⟩ := List.mem_map.1 h1
          have hyn := hv.1 y hy
          have hgy := h.1 y.1 j hyn hj
          rw [← hye]; exact ⟨by omega, (hgy.in_r (hgy.one (rv_mem hy))).1⟩
      have := hnd.length_le_of_subset hsub
      have h3 := quo_len k (by omega) j (by omega) (by omega)
      rw [List.length_cons, List.length_map, hr] at this
      omega
theorem init_inv {n k c : Nat} (hn : n ≤ 16) (hc : c ≤ 300000) : qInv n k c q_init := by
  refine ⟨fun i j hi hj => ?_, fun j hj => ?_, fun i hi => ?_, fun f t hf ht m hm => by cases hm⟩
  · have h0 : q_has 0 j = false := h_0 (by omega)
    by_cases hq : inQ k i j
    · exact ⟨Or.inl ⟨hq, Or.inl ⟨rfl, h0, h0, rfl, rfl, rfl, Or.inl rfl⟩⟩, fun t ht => (by cases ht), fun m hm => (by cases hm)⟩
    · exact ⟨Or.inr ⟨hq, h0, h0, rfl, rfl, rfl, rfl⟩, fun t ht => (by cases ht), fun m hm => (by cases hm)⟩
  · exact ⟨fun x hx => (by cases hx), fun x hx => (by cases hx), Or.inl rfl, fun _ => rfl, List.Pairwise.nil, fun e u x r h1 => (by cases h1)⟩
  · refine ⟨?_, ?_, ?_, fun j _ hj => h_0 hj⟩
    · show 0 ≤ (0 : Int32).toInt; decide
    · show (0 : Int32).toInt + c ≤ 1000000
      rw [show (0 : Int32).toInt = 0 from rfl]; omega
    · show (0 : Int32).toInt ≤ (0 : Int32).toInt; decide
theorem inv_ok {n k c : Nat} {σ : qSt} (hq : qSq n k) (h : qInv n k c σ) : qCap n k σ ∧ qKd n σ ∧ (∀ i : Nat, i < n → σ.1 3 i &&& q_quo k i n = q_quo k i n → σ.1 3 i = q_quo k i n) ∧ (∀ i : Nat, i < n → q_hd (σ.1 3 i) = q_cnt (σ.1 3 i) n) := by
  have hn16 := hq.n.2
  have hx : ∀ i, i < n → ∀ j, j < 32 → q_has (σ.1 3 i) j = true → j < n ∧ inQ k i j := fun i hi j hj hh => by
    rcases Nat.lt_or_ge j n with h1 | h1
    · exact ⟨h1, ((h.1 i j hi h1).in_v hh).1⟩
    · rw [(h.2.2.1 i hi).2.2.2 j h1 hj] at hh; cases hh
  refine ⟨⟨fun f t hf ht => ?_, fun i hi => row_short hq h hi, fun i hi => (h.2.1 i hi).1, fun i hi => (h.2.1 i hi).2.1, fun i hi => (h.2.1 i hi).2.2.1⟩, fun f t hf ht z hz => (h.2.2.2 f t hf ht z hz).1, fun i hi hh => h_full hn16 (hx i hi) hh, fun i hi => q_pop hq.1 hq.2.2 hi (hx i hi)⟩
  have h1 := (h.1 f t hf ht).few.1
  have h2 := (h.1 t f ht hf).few.2.1
  have h3 := vw_len (σ.2.2.2.1 f t)
  unfold vA at h1
  unfold vV at h2
  omega
theorem whole_J : ∀ n k, qSq n k → ∃ J, qJok n k J := fun n k hq =>
  ⟨qInv n k, fun c σ h => inv_ok hq h, fun c hc => init_inv hq.n.2 hc, fun c σ i hi h => request_inv hq.n.2 hi h, fun c σ i hi h => enter_inv hq.n.2 hi h, fun c σ i hi h => release_inv hq.n.2 hi h, fun c σ f t hf ht h => deliver_inv hq.n.2 hf ht h, fun c d σ hd h => h.le hd⟩
