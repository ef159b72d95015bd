/-! WHAT A PAIR SEES -/
def isA (kd : Int32) : Bool := decide (kd = 1 ∨ kd = 3 ∨ kd = 5)
def vwA (w : List qM) : List (Int32 × Int32) := (w.filter (fun m => isA m.1)).map (fun m => (m.1, m.2.1))
def vwV (w : List qM) : List (Int32 × Int32) := (w.filter (fun m => !isA m.1)).map (fun m => (m.1, m.2.1))
def lv (o : Option (Nat × Int32)) (i : Nat) : Option Int32 := match o with
  | none => none
  | some x => if x.1 = i then some x.2 else none
def rv (r : List (Nat × Int32)) (i : Nat) : List Int32 := (r.filter (fun x => decide (x.1 = i))).map (fun x => x.2)
theorem vw_len (w : List qM) : w.length = (vwA w).length + (vwV w).length := by
  unfold vwA vwV
  rw [List.length_map, List.length_map]
  induction w with
  | nil => rfl
  | cons m w ih =>
    cases h : isA m.1 with
    | true => rw [List.filter_cons_of_pos (by simpa using h), List.filter_cons_of_neg (by simp [h])]; simp only [List.length_cons]; omega
    | false => rw [List.filter_cons_of_neg (by simp [h]), List.filter_cons_of_pos (by simp [h])]; simp only [List.length_cons]; omega
theorem vwA_A {w : List qM} {m : qM} (h : isA m.1 = true) : vwA (w ++ [m]) = vwA w ++ [(m.1, m.2.1)] := by
  unfold vwA; rw [List.filter_append, List.map_append]; simp [h]
theorem vwA_V {w : List qM} {m : qM} (h : isA m.1 = false) : vwA (w ++ [m]) = vwA w := by
  unfold vwA; rw [List.filter_append, List.map_append]; simp [h]
theorem vwV_A {w : List qM} {m : qM} (h : isA m.1 = true) : vwV (w ++ [m]) = vwV w := by
  unfold vwV; rw [List.filter_append, List.map_append]; simp [h]
theorem vwV_V {w : List qM} {m : qM} (h : isA m.1 = false) : vwV (w ++ [m]) = vwV w ++ [(m.1, m.2.1)] := by
  unfold vwV; rw [List.filter_append, List.map_append]; simp [h]
theorem vwA_cA {w : List qM} {m : qM} (h : isA m.1 = true) : vwA (m :: w) = (m.1, m.2.1) :: vwA w := by
  unfold vwA; rw [List.filter_cons_of_pos (by simpa using h)]; rfl
theorem vwA_cV {w : List qM} {m : qM} (h : isA m.1 = false) : vwA (m :: w) = vwA w := by
  unfold vwA; rw [List.filter_cons_of_neg (by simp [h])]
theorem vwV_cA {w : List qM} {m : qM} (h : isA m.1 = true) : vwV (m :: w) = vwV w := by
  unfold vwV; rw [List.filter_cons_of_neg (by simp [h])]
theorem vwV_cV {w : List qM} {m : qM} (h : isA m.1 = false) : vwV (m :: w) = (m.1, m.2.1) :: vwV w := by
  unfold vwV; rw [List.filter_cons_of_pos (by simp [h])]; rfl
def vA (σ : qSt) (i j : Nat) : List (Int32 × Int32) := vwA (σ.2.2.2.1 i j)
def vV (σ : qSt) (i j : Nat) : List (Int32 × Int32) := vwV (σ.2.2.2.1 j i)
theorem vA_sendA {σ : qSt} {f t : Nat} {kd tm : Int32} (h : isA kd = true) (i j : Nat) : vA (s_send σ f t kd tm) i j = if i = f ∧ j = t then vA σ i j ++ [(kd, tm)] else vA σ i j := by
  show vwA (q2 σ.2.2.2.1 f t _ i j) = _
  by_cases he : i = f ∧ j = t
  · rw [if_pos he, he.1, he.2, q2_s, vwA_A (m := (kd, tm, σ.1 0 f)) h]; rfl
  · rw [if_neg he, q2_n he]; rfl
theorem vA_sendV {σ : qSt} {f t : Nat} {kd tm : Int32} (h : isA kd = false) (i j : Nat) : vA (s_send σ f t kd tm) i j = vA σ i j := by
  show vwA (q2 σ.2.2.2.1 f t _ i j) = _
  by_cases he : i = f ∧ j = t
  · rw [he.1, he.2, q2_s, vwA_V (m := (kd, tm, σ.1 0 f)) h]; rfl
  · rw [q2_n he]; rfl
theorem vV_sendA {σ : qSt} {f t : Nat} {kd tm : Int32} (h : isA kd = true) (i j : Nat) : vV (s_send σ f t kd tm) i j = vV σ i j := by
  show vwV (q2 σ.2.2.2.1 f t _ j i) = _
  by_cases he : j = f ∧ i = t
  · rw [he.1, he.2, q2_s, vwV_A (m := (kd, tm, σ.1 0 f)) h]; rfl
  · rw [q2_n he]; rfl
theorem vV_sendV {σ : qSt} {f t : Nat} {kd tm : Int32} (h : isA kd = false) (i j : Nat) : vV (s_send σ f t kd tm) i j = if j = f ∧ i = t then vV σ i j ++ [(kd, tm)] else vV σ i j := by
  show vwV (q2 σ.2.2.2.1 f t _ j i) = _
  by_cases he : j = f ∧ i = t
  · rw [if_pos he, he.1, he.2, q2_s, vwV_V (m := (kd, tm, σ.1 0 f)) h]; rfl
  · rw [if_neg he, q2_n he]; rfl
theorem lv_some {o : Option (Nat × Int32)} {i : Nat} {t : Int32} (h : lv o i = some t) : o = some (i, t) := by
  cases o with
  | none => cases h
  | some x =>
    unfold lv at h
    by_cases he : x.1 = i
    · simp only [he, if_true] at h; injection h with h; subst h; subst he; rfl
    · simp only [he, if_false] at h; cases h
theorem lv_self {i : Nat} {t : Int32} : lv (some (i, t)) i = some t := by simp [lv]
theorem lv_ne {i j : Nat} {t : Int32} (h : i ≠ j) : lv (some (i, t)) j = none := by simp [lv, h]
theorem lv_none {i : Nat} : lv none i = none := rfl
theorem rv_nil {i : Nat} : rv [] i = [] := rfl
theorem rv_self {x : Nat × Int32} {r : List (Nat × Int32)} : rv (x :: r) x.1 = x.2 :: rv r x.1 := by simp [rv]
theorem rv_ne {x : Nat × Int32} {r : List (Nat × Int32)} {i : Nat} (h : x.1 ≠ i) : rv (x :: r) i = rv r i := by simp [rv, h]
theorem rv_app {r s : List (Nat × Int32)} {i : Nat} : rv (r ++ s) i = rv r i ++ rv s i := by simp [rv]
theorem rv_mem {r : List (Nat × Int32)} {x : Nat × Int32} (h : x ∈ r) : x.2 ∈ rv r x.1 := by
  unfold rv
  exact List.mem_map.2 ⟨x, List.mem_filter.2 ⟨h, by simp⟩, rfl⟩
theorem rv_ins_ne {r : List (Nat × Int32)} {a i : Nat} {t : Int32} (h : a ≠ i) : rv (q_ins r a t) i = rv r i := by
  unfold q_ins
  rw [rv_app, rv_ne h, ← rv_app, List.take_append_drop]
theorem rv_ins_self {r : List (Nat × Int32)} {a : Nat} {t : Int32} (h : rv r a = []) : rv (q_ins r a t) a = [t] := by
  unfold q_ins
  rw [← List.take_append_drop (q_pl r a t r.length) r, rv_app, List.append_eq_nil_iff] at h
  rw [rv_app, h.1, rv_self (x := (a, t)), h.2]; rfl
theorem mem_ins {r : List (Nat × Int32)} {a : Nat} {t : Int32} {x : Nat × Int32} (h : x ∈ q_ins r a t) : x = (a, t) ∨ x ∈ r := by
  unfold q_ins at h
  rcases List.mem_append.1 h with h | h
  · exact Or.inr (List.mem_of_mem_take h)
  · rcases List.mem_cons.1 h with h | h
    · exact Or.inl h
    · exact Or.inr (List.mem_of_mem_drop h)
theorem ins_mem {r : List (Nat × Int32)} {a : Nat} {t : Int32} {x : Nat × Int32} (h : x = (a, t) ∨ x ∈ r) : x ∈ q_ins r a t := by
  unfold q_ins
  rcases h with h | h
  · exact List.mem_append.2 (Or.inr (List.mem_cons.2 (Or.inl h)))
  · rw [← List.take_append_drop (q_pl r a t r.length) r] at h
    rcases List.mem_append.1 h with h | h
    · exact List.mem_append.2 (Or.inl h)
    · exact List.mem_append.2 (Or.inr (List.mem_cons.2 (Or.inr h)))
/-! who comes before whom -/
theorem bef_iff {t u : Int32} {a b : Nat} : q_bef t a u b = true ↔ (t.toInt < u.toInt ∨ t.toInt = u.toInt ∧ a < b) := by
  unfold q_bef
  rw [decide_eq_true_eq, Int32.lt_iff_toInt_lt, Int32.toInt_inj]
theorem bef_not {t u : Int32} {a b : Nat} : q_bef t a u b = false ↔ ¬ (t.toInt < u.toInt ∨ t.toInt = u.toInt ∧ a < b) := by
  rw [← bef_iff, Bool.not_eq_true]
theorem bef_asymm {t u : Int32} {a b : Nat} (h : q_bef t a u b = true) : q_bef u b t a = false := by
  rw [bef_iff] at h; rw [bef_not]; omega
theorem bef_tr {t u s : Int32} {a b e : Nat} (h : q_bef t a u b = false) (h2 : q_bef u b s e = false) : q_bef t a s e = false := by
  rw [bef_not] at h h2 ⊢; omega
def nb (x y : Nat × Int32) : Prop := q_bef y.2 y.1 x.2 x.1 = false
theorem pl_ok {r : List (Nat × Int32)} {a : Nat} {t : Int32} : ∀ m, m ≤ r.length → q_pl r a t m ≤ m ∧ (∀ e, q_pl r a t m ≤ e → e < m → q_bef t a (r.getD e (0, 0)).2 (r.getD e (0, 0)).1 = true) ∧ (∀ e, e + 1 = q_pl r a t m → q_bef t a (r.getD e (0, 0)).2 (r.getD e (0, 0)).1 = false)
  | 0, _ => ⟨Nat.le_refl _, fun e _ h => by omega, fun e h => by rw [q_pl] at h; omega⟩
  | m + 1, hm => by
    have ih := pl_ok (r := r) (a := a) (t := t) m (by omega)
    rw [q_pl]
    cases hb : q_bef t a (r.getD m (0, 0)).2 (r.getD m (0, 0)).1 with
    | true =>
      rw [if_pos rfl]
      refine ⟨by omega, fun e h1 h2 => ?_, ih.2.2⟩
      by_cases he : e = m
      · rw [he]; exact hb
      · exact ih.2.1 e h1 (by omega)
    | false =>
      rw [if_neg (by decide)]
      exact ⟨Nat.le_refl _, fun e h1 h2 => by omega, fun e h => by rw [show e = m by omega]; exact hb⟩
theorem sorted_ins {r : List (Nat × Int32)} {a : Nat} {t : Int32} (h : List.Pairwise nb r) : List.Pairwise nb (q_ins r a t) := by
  obtain ⟨h1, h2, h3⟩ := pl_ok (r := r) (a := a) (t := t) r.length (Nat.le_refl _)
  unfold q_ins
  generalize hp : q_pl r a t r.length = p at h1 h2 h3
  have hcut := h
  rw [← List.take_append_drop p r, List.pairwise_append] at hcut
  obtain ⟨c1, c2, c3⟩ := hcut
  have hget : ∀ e, (he : e < r.length) → r.getD e (0, 0) = r[e] := fun e he => by simp [List.getD, List.getElem?_eq_getElem he]
  have hdrop : ∀ y ∈ r.drop p, q_bef t a y.2 y.1 = true := fun y hy => by
    obtain ⟨e, he, rfl⟩ := List.getElem_of_mem hy
    rw [List.length_drop] at he
    have := h2 (p + e) (by omega) (by omega)
    rw [hget _ (by omega)] at this
    rw [List.getElem_drop]; exact this
  have htake : ∀ x ∈ r.take p, q_bef t a x.2 x.1 = false := fun x hx => by
    obtain ⟨e, he, rfl⟩ := List.getElem_of_mem hx
    rw [List.length_take] at he
    rw [List.getElem_take]
    have hl := h3 (p - 1) (by omega)
    rw [hget _ (by omega)] at hl
    by_cases hee : e = p - 1
    · subst hee; exact hl
    · have := List.pairwise_iff_getElem.1 h e (p - 1) (by omega) (by omega) (by omega)
      exact bef_tr hl this
  refine List.pairwise_append.2 ⟨c1, List.pairwise_cons.2 ⟨fun y hy => bef_asymm (hdrop y hy), c2⟩, fun x hx y hy => ?_⟩
  rcases List.mem_cons.1 hy with h | h
  · subst h; exact htake x hx
  · exact c3 x hx y h
theorem ins_head {r : List (Nat × Int32)} {a : Nat} {t : Int32} : (q_pl r a t r.length = 0 ∧ q_ins r a t = (a, t) :: r) ∨ (q_pl r a t r.length ≠ 0 ∧ ∃ x r' s, r = x :: r' ∧ q_ins r a t = x :: s) := by
  have hp := (pl_ok (r := r) (a := a) (t := t) r.length (Nat.le_refl _)).1
  unfold q_ins
  generalize q_pl r a t r.length = p at hp
  cases p with
  | zero => exact Or.inl ⟨rfl, by simp⟩
  | succ p =>
    refine Or.inr ⟨by omega, ?_⟩
    cases r with
    | nil => exact absurd hp (by simp)
    | cons x r' => exact ⟨x, r', r'.take p ++ (a, t) :: r'.drop p, rfl, by simp⟩
