/-! A MESSAGE COMES -/
theorem vwV_sub {x : qM} {w : List qM} {m : Int32 × Int32} (h : m ∈ vwV w) : m ∈ vwV (x :: w) := by
  cases hA : isA x.1 with
  | true => rw [vwV_cA hA]; exact h
  | false => rw [vwV_cV hA]; exact List.mem_cons.2 (Or.inr h)
theorem pop_clk {n c f t : Nat} {σ : qSt} {x : qM} {w : List qM} (h : qClk n (c + 1) σ) (hf : f < n) (ht : t < n) (hw : σ.2.2.2.1 f t = x :: w) : qClk n c (s_tb (s_wr σ f t w) 0 t (q_max (σ.1 0 t) x.2.2 + 1)) := by
  have h' : qClk n c (s_wr σ f t w) := by
    have hd := h.le (d := c) (by omega)
    refine ⟨hd.1, fun f' t' hf' ht' m hm => ?_⟩
    change m ∈ q2 σ.2.2.2.1 f t w f' t' at hm
    by_cases he : f' = f ∧ t' = t
    · rw [he.1, he.2, q2_s] at hm
      exact hd.2 f t hf ht m (by rw [hw]; exact List.mem_cons.2 (Or.inr hm))
    · rw [q2_n he] at hm; exact hd.2 f' t' hf' ht' m hm
  refine h'.tb0 (fun _ => ?_)
  have h1 := h.1 t ht
  have h2 := h.2 f t hf ht x (by rw [hw]; exact List.mem_cons_self)
  have h3 := i_max (x := σ.1 0 t) (y := x.2.2)
  have h4 := i_succ (x := q_max (σ.1 0 t) x.2.2) (by omega) (by omega)
  show (σ.1 0 t).toInt ≤ _ ∧ _
  rw [h4, h3]
  constructor <;> omega
theorem deliver_inv {n k c f t : Nat} {σ : qSt} (hn : n ≤ 16) (hf : f < n) (ht : t < n) (h : qInv n k (c + 1) σ) : qInv n k c (q_deliver n σ f t).2 := by
  unfold q_deliver
  cases hw : σ.2.2.2.1 f t with
  | nil => exact h.le (by omega)
  | cons x w =>
    show qInv n k c (q_do n (s_tb (s_wr σ f t w) 0 t (q_max (σ.1 0 t) x.2.2 + 1)) t f x.1 x.2.1)
    have hC := pop_clk h.2.2 hf ht hw
    have hkn := (h.2.2.2 f t hf ht x (by rw [hw]; exact List.mem_cons_self)).1
    have hck := i_max (x := σ.1 0 t) (y := x.2.2)
    have hcl := h.2.2.1 t ht
    have hcx := h.2.2.2 f t hf ht x (by rw [hw]; exact List.mem_cons_self)
    have hcs := i_succ (x := q_max (σ.1 0 t) x.2.2) (by omega) (by omega)
    obtain ⟨τ, eτ⟩ : ∃ τ, τ = s_tb (s_wr σ f t w) 0 t (q_max (σ.1 0 t) x.2.2 + 1) := ⟨_, rfl⟩
    rw [← eτ] at hC ⊢
    have t0 : ∀ g i, g ≠ 0 → τ.1 g i = σ.1 g i := fun g i hg => by rw [eτ]; exact tb_n hg
    have tc : ∀ i, i < n → (σ.1 0 i).toInt ≤ (τ.1 0 i).toInt := fun i hi => by
      rw [eτ]
      by_cases he : i = t
      · subst he; rw [tb_s, hcs]; omega
      · rw [tb_i he]; exact Int.le_refl _
    have tl : τ.2.1 = σ.2.1 := by rw [eτ]; rfl
    have tr : τ.2.2.1 = σ.2.2.1 := by rw [eτ]; rfl
    have tA : ∀ i j, vA τ i j = if i = f ∧ j = t then vwA w else vA σ i j := fun i j => by
      rw [eτ]
      show vwA (q2 σ.2.2.2.1 f t w i j) = _
      by_cases he : i = f ∧ j = t
      · rw [if_pos he, he.1, he.2, q2_s]
      · rw [if_neg he, q2_n he]; rfl
    have tV : ∀ i j, vV τ i j = if j = f ∧ i = t then vwV w else vV σ i j := fun i j => by
      rw [eτ]
      show vwV (q2 σ.2.2.2.1 f t w j i) = _
      by_cases he : j = f ∧ i = t
      · rw [if_pos he, he.1, he.2, q2_s]
      · rw [if_neg he, q2_n he]; rfl
    clear eτ
    have hVo : ∀ j, j < n → qV n τ j := fun j hj => (h.2.1 j hj).of (by rw [tr]) (by rw [tl]) (t0 6 j (by decide)) (fun i m hm => by
      rw [tV] at hm
      by_cases he : j = f ∧ i = t
      · rw [if_pos he] at hm
        show m ∈ vwV (σ.2.2.2.1 j i)
        rw [he.1, he.2, hw]; exact vwV_sub hm
      · rw [if_neg he] at hm; exact hm)
    have gen : ∀ i j, i < n → j < n → vA τ i j = vA σ i j → vV τ i j = vV σ i j → qG k τ i j := fun i j hi hj eA eV =>
      (h.1 i j hi hj).of (tc i hi) (t0 _ _ (by decide)) (t0 _ _ (by decide)) (by rw [t0 _ _ (by decide)]) (by rw [t0 _ _ (by decide)]) (t0 _ _ (by decide)) (by rw [tl]) (by rw [tr]) eA eV
    have vS : isA x.1 = true → ∀ i j, vV τ i j = vV σ i j := fun hA i j => by
      rw [tV]
      by_cases he : j = f ∧ i = t
      · rw [if_pos he]; show vwV w = vwV (σ.2.2.2.1 j i); rw [he.1, he.2, hw, vwV_cA hA]
      · rw [if_neg he]
    have aS : isA x.1 = false → ∀ i j, vA τ i j = vA σ i j := fun hA i j => by
      rw [tA]
      by_cases he : i = f ∧ j = t
      · rw [if_pos he]; show vwA w = vwA (σ.2.2.2.1 i j); rw [he.1, he.2, hw, vwA_cV hA]
      · rw [if_neg he]
    have hAq : isA x.1 = true → (∀ i j, i < n → j < n → ¬ (i = f ∧ j = t) → qG k τ i j) ∧ PG (inQ k f t) (τ.1 0 f).toInt (τ.1 1 f) (τ.1 2 f) (q_has (τ.1 3 f) t) (q_has (τ.1 5 f) t) (τ.1 6 t) (lv (τ.2.1 t) f) (rv (τ.2.2.1 t) f) ((x.1, x.2.1) :: vA τ f t) (vV τ f t) := fun hA => by
      refine ⟨fun i j hi hj he => gen i j hi hj (by rw [tA, if_neg he]) (vS hA i j), ?_⟩
      refine PG.eq (h.1 f t hf ht) (tc f hf) (t0 _ _ (by decide)) (t0 _ _ (by decide)) (by rw [t0 _ _ (by decide)]) (by rw [t0 _ _ (by decide)]) (t0 _ _ (by decide)) (by rw [tl]) (by rw [tr]) ?_ (vS hA f t)
      rw [tA, if_pos ⟨rfl, rfl⟩]
      show _ = vwA (σ.2.2.2.1 f t)
      rw [hw, vwA_cA hA]
    have hVq : isA x.1 = false → (∀ i j, i < n → j < n → ¬ (i = t ∧ j = f) → qG k τ i j) ∧ PG (inQ k t f) (τ.1 0 t).toInt (τ.1 1 t) (τ.1 2 t) (q_has (τ.1 3 t) f) (q_has (τ.1 5 t) f) (τ.1 6 f) (lv (τ.2.1 f) t) (rv (τ.2.2.1 f) t) (vA τ t f) ((x.1, x.2.1) :: vV τ t f) := fun hA => by
      refine ⟨fun i j hi hj he => gen i j hi hj (aS hA i j) (by rw [tV, if_neg (fun hh => he ⟨hh.2, hh.1⟩)]), ?_⟩
      refine PG.eq (h.1 t f ht hf) (tc t ht) (t0 _ _ (by decide)) (t0 _ _ (by decide)) (by rw [t0 _ _ (by decide)]) (by rw [t0 _ _ (by decide)]) (t0 _ _ (by decide)) (by rw [tl]) (by rw [tr]) (aS hA t f) ?_
      rw [tV, if_pos ⟨rfl, rfl⟩]
      show _ = vwV (σ.2.2.2.1 f t)
      rw [hw, vwV_cV hA]
    rcases hkn with hk | hk | hk | hk | hk | hk
    · obtain ⟨g1, g2⟩ := hAq (by rw [hk]; decide)
      rw [hk] at g2 ⊢
      exact asked_inv ht hf g1 hVo hC g2
    · obtain ⟨g1, g2⟩ := hVq (by rw [hk]; decide)
      rw [hk] at g2 ⊢
      exact locked_inv hn ht hf g1 hVo hC g2
    · obtain ⟨g1, g2⟩ := hAq (by rw [hk]; decide)
      rw [hk] at g2 ⊢
      exact home3_inv ht hf g1 hVo hC g2
    · obtain ⟨g1, g2⟩ := hVq (by rw [hk]; decide)
      rw [hk] at g2 ⊢
      exact inquire_inv hn ht hf g1 hVo hC g2
    · obtain ⟨g1, g2⟩ := hAq (by rw [hk]; decide)
      rw [hk] at g2 ⊢
      exact home5_inv ht hf g1 hVo hC g2
    · obtain ⟨g1, g2⟩ := hVq (by rw [hk]; decide)
      rw [hk] at g2 ⊢
      exact failed_inv hn ht hf g1 hVo hC g2
/-! ONE SENDS TO ITS QUORUM -/
theorem all_clk {n c i : Nat} {set kd tm : Int32} (hi : i < n) (hk : qKn kd) : ∀ (m j : Nat) (σ : qSt), qClk n c σ → qClk n c (q_all i set kd tm m j σ)
  | 0, _, _, h => h
  | m + 1, j, σ, h => by
    unfold q_all
    refine all_clk hi hk m (j + 1) _ ?_
    split
    · exact h.send hi hk
    · exact h
theorem all_eff {i : Nat} {set kd tm : Int32} (hA : isA kd = true) : ∀ (m j : Nat) (σ : qSt), (q_all i set kd tm m j σ).1 = σ.1 ∧ (q_all i set kd tm m j σ).2.1 = σ.2.1 ∧ (q_all i set kd tm m j σ).2.2.1 = σ.2.2.1 ∧ (∀ x y, vV (q_all i set kd tm m j σ) x y = vV σ x y) ∧ (∀ x y, vA (q_all i set kd tm m j σ) x y = if x = i ∧ (j ≤ y ∧ y < j + m) ∧ q_has set y = true then vA σ x y ++ [(kd, tm)] else vA σ x y)
  | 0, j, σ => ⟨rfl, rfl, rfl, fun _ _ => rfl, fun x y => by rw [if_neg (fun h => by omega)]; rfl⟩
  | m + 1, j, σ => by
    unfold q_all
    by_cases hs : q_has set j = true
    · rw [if_pos hs]
      obtain ⟨h1, h2, h3, h4, h5⟩ := all_eff (i := i) (set := set) (kd := kd) (tm := tm) hA m (j + 1) (s_send σ i j kd tm)
      refine ⟨h1, h2, h3, fun x y => by rw [h4, vV_sendA hA], fun x y => ?_⟩
      rw [h5, vA_sendA hA]
      by_cases hx : x = i ∧ y = j
      · obtain ⟨e1, e2⟩ := hx
        subst e1; subst e2
        rw [if_neg (fun h => by omega), if_pos ⟨rfl, rfl⟩, if_pos ⟨rfl, ⟨by omega, by omega⟩, hs⟩]
      · rw [if_neg hx]
        by_cases hc : x = i ∧ (j ≤ y ∧ y < j + (m + 1)) ∧ q_has set y = true
        · rw [if_pos hc, if_pos ⟨hc.1, ⟨by have : y ≠ j := fun h => hx ⟨hc.1, h⟩; omega, by omega⟩, hc.2.2⟩]
        · rw [if_neg hc, if_neg (fun h => hc ⟨h.1, ⟨by omega, by omega⟩, h.2.2⟩)]
    · rw [if_neg hs]
      obtain ⟨h1, h2, h3, h4, h5⟩ := all_eff (i := i) (set := set) (kd := kd) (tm := tm) hA m (j + 1) σ
      refine ⟨h1, h2, h3, h4, fun x y => ?_⟩
      rw [h5]
      by_cases hc : x = i ∧ (j ≤ y ∧ y < j + (m + 1)) ∧ q_has set y = true
      · rw [if_pos hc, if_pos ⟨hc.1, ⟨by have : y ≠ j := fun h => hs (h ▸ hc.2.2); omega, by omega⟩, hc.2.2⟩]
      · rw [if_neg hc, if_neg (fun h => hc ⟨h.1, ⟨by omega, by omega⟩, h.2.2⟩)]
/-- from one to its quorum: what is owed of the pairs of the one alone -/
theorem all_inv {n k c i : Nat} {σ ρ : qSt} {kd tm : Int32} (hn : n ≤ 16) (hi : i < n) (hA : isA kd = true) (hk : qKn kd) (hG : ∀ i' j', i' < n → j' < n → qG k σ i' j') (hV : ∀ j', j' < n → qV n σ j') (h1 : ∀ g i', i' ≠ i → ρ.1 g i' = σ.1 g i') (h6 : ∀ j', ρ.1 6 j' = σ.1 6 j') (h0 : (σ.1 0 i).toInt ≤ (ρ.1 0 i).toInt) (h3 : ρ.1 3 i = 0) (h5 : ρ.1 5 i = 0) (h2 : ρ.2 = σ.2) (hC : qClk n c ρ)
    (hP : ∀ {v q : Bool} {iq : Int32} {lt : Option Int32} {rt : List Int32} {A V : List (Int32 × Int32)}, PInv (σ.1 1 i) (σ.1 2 i) v q iq lt rt A V → (∀ t, lt = some t → t.toInt ≤ (σ.1 0 i).toInt) → (∀ m ∈ V, m.2.toInt ≤ (σ.1 0 i).toInt) → PInv (ρ.1 1 i) (ρ.1 2 i) false false iq lt rt (A ++ [(kd, tm)]) V) : qInv n k c (q_all i (q_quo k i n) kd tm n 0 ρ) := by
  obtain ⟨a1, a2, a3, a4, a5⟩ := all_eff (i := i) (set := q_quo k i n) (kd := kd) (tm := tm) hA n 0 ρ
  have hC' := all_clk (set := q_quo k i n) (tm := tm) hi hk n 0 ρ hC
  obtain ⟨τ, eτ⟩ : ∃ τ, τ = q_all i (q_quo k i n) kd tm n 0 ρ := ⟨_, rfl⟩
  rw [← eτ] at a1 a2 a3 a4 a5 hC' ⊢
  have a2' : τ.2.1 = σ.2.1 := by rw [a2, h2]
  have a3' : τ.2.2.1 = σ.2.2.1 := by rw [a3, h2]
  have eVr : ∀ x y, vV ρ x y = vV σ x y := fun x y => by unfold vV; rw [h2]
  have eAr : ∀ x y, vA ρ x y = vA σ x y := fun x y => by unfold vA; rw [h2]
  refine ⟨fun i' j' hi' hj' => ?_, fun j' hj' => (hV j' hj').of (by rw [a3']) (by rw [a2']) (by rw [a1, h6]) (fun x m hm => by rw [a4, eVr] at hm; exact hm), hC'⟩
  by_cases he : i' = i
  · subst he
    have hg := hG i' j' hi' hj'
    have b3 : q_has (τ.1 3 i') j' = false := by rw [a1, h3]; exact h_0 (by omega)
    have b5 : q_has (τ.1 5 i') j' = false := by rw [a1, h5]; exact h_0 (by omega)
    have hqq := h_quo (k := k) (i := i') (m := n) (by omega) j' (by omega)
    by_cases hq : inQ k i' j'
    · have hI : PInv _ _ _ _ _ _ _ _ _ := hg.1.elim (fun h => h.2) (fun h => absurd hq h.1)
      have hw := hP hI hg.2.1 hg.2.2
      exact PG.eq (M := (σ.1 0 i').toInt) ⟨Or.inl ⟨hq, hw⟩, hg.2⟩ (by rw [a1]; exact h0) (by rw [a1]) (by rw [a1]) b3 b5 (by rw [a1, h6]) (by rw [a2']) (by rw [a3']) (by rw [a5, eAr, if_pos ⟨rfl, ⟨by omega, by omega⟩, hqq.2 ⟨hj', hq⟩⟩]) (by rw [a4, eVr])
    · obtain ⟨-, -, -, q1, q2, q3, q4⟩ := hg.1.elim (fun h => absurd h.1 hq) id
      refine PG.eq (M := (σ.1 0 i').toInt) (v := false) (q := false) (lt := none) (rt := []) (A := []) (V := []) ⟨Or.inr ⟨hq, rfl, rfl, rfl, rfl, rfl, rfl⟩, fun s hs => (by cases hs), fun m hm => (by cases hm)⟩ (by rw [a1]; exact h0) rfl rfl b3 b5 rfl (by rw [a2']; exact q1) (by rw [a3']; exact q2) ?_ (by rw [a4, eVr]; exact q4)
      rw [a5, eAr, if_neg (fun h => hq (hqq.1 h.2.2).2)]; exact q3
  · exact (hG i' j' hi' hj').of (by rw [a1, h1 _ _ he]; exact Int.le_refl _) (by rw [a1, h1 _ _ he]) (by rw [a1, h1 _ _ he]) (by rw [a1, h1 _ _ he]) (by rw [a1, h1 _ _ he]) (by rw [a1, h6]) (by rw [a2']) (by rw [a3']) (by rw [a5, eAr, if_neg (fun h => he h.1)]) (by rw [a4, eVr])
theorem request_inv {n k c i : Nat} {σ : qSt} (hn : n ≤ 16) (hi : i < n) (h : qInv n k (c + 1) σ) : qInv n k c (q_request n k σ i).2 := by
  unfold q_request
  by_cases h1 : σ.1 1 i = 0
  · rw [if_pos h1]
    have hc := h.2.2.1 i hi
    have hs := i_succ (x := σ.1 0 i) hc.1 (by omega)
    refine all_inv (σ := σ) hn hi (by decide) (by unfold qKn; decide) h.1 h.2.1 (fun g i' hh => (by simp [q_empty, s_send, s_wr, s_tb, s_ln, s_rw, s_en, q2, va_up, hh])) (fun j' => (by simp [q_empty, s_send, s_wr, s_tb, s_ln, s_rw, s_en, q2, va_up])) ?_ (by simp [q_empty, s_send, s_wr, s_tb, s_ln, s_rw, s_en, q2, va_up]) (by simp [q_empty, s_send, s_wr, s_tb, s_ln, s_rw, s_en, q2, va_up]) rfl ?_ ?_
    · rw [show (q_empty (s_tb (s_tb (s_tb σ 0 i (σ.1 0 i + 1)) 1 i 1) 2 i (σ.1 0 i + 1)) i).1 0 i = σ.1 0 i + 1 from (by simp [q_empty, s_send, s_wr, s_tb, s_ln, s_rw, s_en, q2, va_up]), hs]; omega
    · refine qClk.tb (qClk.tb (qClk.tb3 (qClk.tb2 (qClk.tb (qClk.tb0 (h.2.2.le (by omega)) (fun _ => ⟨by rw [hs]; omega, by rw [hs]; omega⟩)) (by decide) (by decide) (by decide)) (fun _ => ?_)) (fun _ j h1 h2 => h_0 h2)) (by decide) (by decide) (by decide)) (by decide) (by decide) (by decide)
      rw [tb_n (g := 0) (f := 1) (by decide), tb_s]; exact Int.le_refl _
    · intro v q iq lt rt A V hp hl hv
      rw [h1] at hp
      rw [show (q_empty (s_tb (s_tb (s_tb σ 0 i (σ.1 0 i + 1)) 1 i 1) 2 i (σ.1 0 i + 1)) i).1 1 i = 1 from (by simp [q_empty, s_send, s_wr, s_tb, s_ln, s_rw, s_en, q2, va_up]), show (q_empty (s_tb (s_tb (s_tb σ 0 i (σ.1 0 i + 1)) 1 i 1) 2 i (σ.1 0 i + 1)) i).1 2 i = σ.1 0 i + 1 from (by simp [q_empty, s_send, s_wr, s_tb, s_ln, s_rw, s_en, q2, va_up])]
      exact hp.request (fun m hm he => by have := hv m hm; rw [he, hs] at this; omega) (fun t ht he => by have := hl t ht; rw [he, hs] at this; omega)
  · rw [if_neg h1]; exact h.le (by omega)
theorem release_inv {n k c i : Nat} {σ : qSt} (hn : n ≤ 16) (hi : i < n) (h : qInv n k (c + 1) σ) : qInv n k c (q_release n k σ i).2 := by
  unfold q_release
  by_cases h1 : σ.1 1 i = 2
  · rw [if_pos h1]
    have hc := h.2.2.1 i hi
    refine all_inv (σ := σ) hn hi (by decide) (by unfold qKn; decide) h.1 h.2.1 (fun g i' hh => (by simp [q_empty, s_send, s_wr, s_tb, s_ln, s_rw, s_en, q2, va_up, hh])) (fun j' => (by simp [q_empty, s_send, s_wr, s_tb, s_ln, s_rw, s_en, q2, va_up])) (by simp [q_empty, s_send, s_wr, s_tb, s_ln, s_rw, s_en, q2, va_up]) (by simp [q_empty, s_send, s_wr, s_tb, s_ln, s_rw, s_en, q2, va_up]) (by simp [q_empty, s_send, s_wr, s_tb, s_ln, s_rw, s_en, q2, va_up]) rfl ?_ ?_
    · refine qClk.tb (qClk.tb (qClk.tb3 (qClk.tb2 (qClk.tb (h.2.2.le (by omega)) (by decide) (by decide) (by decide)) (fun _ => ?_)) (fun _ j h1 h2 => h_0 h2)) (by decide) (by decide) (by decide)) (by decide) (by decide) (by decide)
      rw [tb_n (g := 0) (f := 1) (by decide)]; exact hc.1
    · intro v q iq lt rt A V hp hl hv
      rw [h1] at hp
      rw [show (q_empty (s_tb (s_tb σ 1 i 0) 2 i 0) i).1 1 i = 0 from (by simp [q_empty, s_send, s_wr, s_tb, s_ln, s_rw, s_en, q2, va_up]), show (q_empty (s_tb (s_tb σ 1 i 0) 2 i 0) i).1 2 i = 0 from (by simp [q_empty, s_send, s_wr, s_tb, s_ln, s_rw, s_en, q2, va_up])]
      exact hp.release
  · rw [if_neg h1]; exact h.le (by omega)
theorem enter_inv {n k c i : Nat} {σ : qSt} (hn : n ≤ 16) (hi : i < n) (h : qInv n k (c + 1) σ) : qInv n k c (q_enter n k σ i).2 := by
  unfold q_enter
  by_cases h1 : σ.1 1 i = 1 ∧ σ.1 3 i = q_quo k i n
  · rw [if_pos h1]
    have hd := h.le (d := c) (by omega)
    refine ⟨fun i' j' hi' hj' => ?_, fun j' hj' => (h.2.1 j' hj').of rfl rfl (by simp [q_empty, s_send, s_wr, s_tb, s_ln, s_rw, s_en, q2, va_up]) (fun _ _ hm => hm), (hd.2.2.tb (by decide) (by decide) (by decide)).en⟩
    by_cases he : i' = i
    · subst he
      have hg := h.1 i' j' hi' hj'
      have hqq := h_quo (k := k) (i := i') (m := n) (by omega) j' (by omega)
      by_cases hq : inQ k i' j'
      · have hI : PInv _ _ _ _ _ _ _ _ _ := hg.1.elim (fun h => h.2) (fun h => absurd hq h.1)
        have hv : q_has (σ.1 3 i') j' = true := by rw [h1.2]; exact hqq.2 ⟨hj', hq⟩
        rw [h1.1, hv] at hI
        exact PG.eq (M := (σ.1 0 i').toInt) ⟨Or.inl ⟨hq, hI.enter⟩, hg.2⟩ (by simp [q_empty, s_send, s_wr, s_tb, s_ln, s_rw, s_en, q2, va_up]) (by simp [q_empty, s_send, s_wr, s_tb, s_ln, s_rw, s_en, q2, va_up]) (by simp [q_empty, s_send, s_wr, s_tb, s_ln, s_rw, s_en, q2, va_up]) (by rw [← hv]; exact (by simp [q_empty, s_send, s_wr, s_tb, s_ln, s_rw, s_en, q2, va_up])) (by simp [q_empty, s_send, s_wr, s_tb, s_ln, s_rw, s_en, q2, va_up]) (by simp [q_empty, s_send, s_wr, s_tb, s_ln, s_rw, s_en, q2, va_up]) rfl rfl rfl rfl
      · obtain ⟨-, p5, p6, p1, p2, p3, p4⟩ := hg.1.elim (fun h => absurd h.1 hq) id
        exact PG.eq (M := (σ.1 0 i').toInt) (v := false) (q := false) (lt := none) (rt := []) (A := []) (V := []) ⟨Or.inr ⟨hq, rfl, rfl, rfl, rfl, rfl, rfl⟩, fun s hs => (by cases hs), fun m hm => (by cases hm)⟩ (by simp [q_empty, s_send, s_wr, s_tb, s_ln, s_rw, s_en, q2, va_up]) rfl rfl (by rw [← p5]; exact (by simp [q_empty, s_send, s_wr, s_tb, s_ln, s_rw, s_en, q2, va_up])) (by rw [← p6]; exact (by simp [q_empty, s_send, s_wr, s_tb, s_ln, s_rw, s_en, q2, va_up])) rfl p1 p2 p3 p4
    · exact (h.1 i' j' hi' hj').of (by simp [q_empty, s_send, s_wr, s_tb, s_ln, s_rw, s_en, q2, va_up, he]) (by simp [q_empty, s_send, s_wr, s_tb, s_ln, s_rw, s_en, q2, va_up, he]) (by simp [q_empty, s_send, s_wr, s_tb, s_ln, s_rw, s_en, q2, va_up, he]) (by simp [q_empty, s_send, s_wr, s_tb, s_ln, s_rw, s_en, q2, va_up, he]) (by simp [q_empty, s_send, s_wr, s_tb, s_ln, s_rw, s_en, q2, va_up, he]) (by simp [q_empty, s_send, s_wr, s_tb, s_ln, s_rw, s_en, q2, va_up]) rfl rfl rfl rfl
  · rw [if_neg h1]; exact h.le (by omega)
