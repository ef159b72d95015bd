/-! THE INVARIANT -/
def PG (b : Prop) (M : Int) (St T : Int32) (v q : Bool) (iq : Int32) (lt : Option Int32) (rt : List Int32) (A V : List (Int32 × Int32)) : Prop :=
  ((b ∧ PInv St T v q iq lt rt A V) ∨ (¬ b ∧ v = false ∧ q = false ∧ lt = none ∧ rt = [] ∧ A = [] ∧ V = [])) ∧ (∀ t, lt = some t → t.toInt ≤ M) ∧ (∀ m ∈ V, m.2.toInt ≤ M)
section PGL
variable {b : Prop} {M : Int} {St T : Int32} {v q : Bool} {iq : Int32} {lt : Option Int32} {rt : List Int32} {A V : List (Int32 × Int32)}
theorem PG.eq {M' : Int} {St' T' : Int32} {v' q' : Bool} {iq' : Int32} {lt' : Option Int32} {rt' : List Int32} {A' V' : List (Int32 × Int32)} (h : PG b M St T v q iq lt rt A V) (hM : M ≤ M') (e1 : St' = St) (e2 : T' = T) (e3 : v' = v) (e4 : q' = q) (e5 : iq' = iq) (e6 : lt' = lt) (e7 : rt' = rt) (e8 : A' = A) (e9 : V' = V) : PG b M' St' T' v' q' iq' lt' rt' A' V' := by
  subst e1 e2 e3 e4 e5 e6 e7 e8 e9
  exact ⟨h.1, fun t ht => Int.le_trans (h.2.1 t ht) hM, fun m hm => Int.le_trans (h.2.2 m hm) hM⟩
theorem PG.in_l {t : Int32} (h : PG b M St T v q iq lt rt A V) (hl : lt = some t) : b ∧ PInv St T v q iq lt rt A V := by
  rcases h.1 with h | ⟨-, -, -, h, -⟩
  · exact h
  · rw [h] at hl; cases hl
theorem PG.in_r {t : Int32} {r : List Int32} (h : PG b M St T v q iq lt rt A V) (hl : rt = t :: r) : b ∧ PInv St T v q iq lt rt A V := by
  rcases h.1 with h | ⟨-, -, -, -, h, -⟩
  · exact h
  · rw [h] at hl; cases hl
theorem PG.in_A {m : Int32 × Int32} {r : List (Int32 × Int32)} (h : PG b M St T v q iq lt rt A V) (hl : A = m :: r) : b ∧ PInv St T v q iq lt rt A V := by
  rcases h.1 with h | ⟨-, -, -, -, -, h, -⟩
  · exact h
  · rw [h] at hl; cases hl
theorem PG.in_V {m : Int32 × Int32} {r : List (Int32 × Int32)} (h : PG b M St T v q iq lt rt A V) (hl : V = m :: r) : b ∧ PInv St T v q iq lt rt A V := by
  rcases h.1 with h | ⟨-, -, -, -, -, -, h⟩
  · exact h
  · rw [h] at hl; cases hl
theorem PG.in_v (h : PG b M St T v q iq lt rt A V) (hl : v = true) : b ∧ PInv St T v q iq lt rt A V := by
  rcases h.1 with h | ⟨-, h, -⟩
  · exact h
  · rw [h] at hl; cases hl
theorem PG.few (h : PG b M St T v q iq lt rt A V) : A.length ≤ 2 ∧ V.length ≤ 4 ∧ rt.length ≤ 1 ∧ (lt ≠ none → rt = []) := by
  rcases h.1 with h | ⟨-, -, -, h1, h2, h3, h4⟩
  · exact h.2.few
  · subst h1 h2 h3 h4; exact ⟨by simp, by simp, by simp, fun _ => rfl⟩
theorem PG.anyiq (h : PG b M St T v q iq none rt A V) (iq' : Int32) : PG b M St T v q iq' none rt A V :=
  ⟨h.1.elim (fun h => Or.inl ⟨h.1, h.2.anyiq iq'⟩) Or.inr, h.2⟩
/-- its row has one of its requests: the only one -/
theorem PG.one {t : Int32} (h : PG b M St T v q iq lt rt A V) (hm : t ∈ rt) : rt = [t] := by
  have h1 := h.few.2.2.1
  cases rt with
  | nil => cases hm
  | cons x r =>
    cases r with
    | nil => rcases List.mem_cons.1 hm with h | h
             · rw [h]
             · cases h
    | cons y r => simp at h1
theorem PG.failed {t : Int32} (h : PG b M St T v q iq lt [t] A V) (hT : T.toInt ≤ M) (hn : ∀ m ∈ V, m.1 ≠ 6) : PG b M St T v q iq lt [t] A (V ++ [(6, t)]) := by
  have h1 := h.in_r rfl
  have ht := h1.2.waits.1
  refine ⟨Or.inl ⟨h1.1, h1.2.failed hn iq⟩, h.2.1, fun m hm => ?_⟩
  rcases List.mem_append.1 hm with hm | hm
  · exact h.2.2 m hm
  · rw [List.mem_singleton.1 hm, ht]; exact hT
theorem PG.lendW {t : Int32} (h : PG b M St T v q iq lt [t] A V) (hT : T.toInt ≤ M) : PG b M St T v q 0 (some t) [] A (V ++ [(2, t)]) := by
  have h1 := h.in_r rfl
  have ht := h1.2.waits.1
  refine ⟨Or.inl ⟨h1.1, h1.2.lendW⟩, fun s hs => ?_, fun m hm => ?_⟩
  · injection hs with hs; rw [← hs, ht]; exact hT
  · rcases List.mem_append.1 hm with hm | hm
    · exact h.2.2 m hm
    · rw [List.mem_singleton.1 hm, ht]; exact hT
theorem PG.inquire {t : Int32} (h : PG b M St T v q 0 (some t) rt A V) : PG b M St T v q 1 (some t) rt A (V ++ [(4, t)]) := by
  have h1 := h.in_l rfl
  refine ⟨Or.inl ⟨h1.1, h1.2.inquire⟩, h.2.1, fun m hm => ?_⟩
  rcases List.mem_append.1 hm with hm | hm
  · exact h.2.2 m hm
  · rw [List.mem_singleton.1 hm]; exact h.2.1 t rfl
end PGL
def qG (k : Nat) (σ : qSt) (i j : Nat) : Prop := PG (inQ k i j) (σ.1 0 i).toInt (σ.1 1 i) (σ.1 2 i) (q_has (σ.1 3 i) j) (q_has (σ.1 5 i) j) (σ.1 6 j) (lv (σ.2.1 j) i) (rv (σ.2.2.1 j) i) (vA σ i j) (vV σ i j)
def qV (n : Nat) (σ : qSt) (j : Nat) : Prop :=
  (∀ x ∈ σ.2.2.1 j, x.1 < n) ∧ (∀ x : Nat × Int32, σ.2.1 j = some x → x.1 < n) ∧ (σ.1 6 j = 0 ∨ σ.1 6 j = 1) ∧ (σ.2.1 j = none → σ.2.2.1 j = []) ∧ List.Pairwise nb (σ.2.2.1 j) ∧
  (∀ (e : Nat) (u : Int32) (x : Nat × Int32) (r : List (Nat × Int32)), σ.2.1 j = some (e, u) → σ.2.2.1 j = x :: r → q_bef x.2 x.1 u e = true → ∀ m ∈ vV σ x.1 j, m.1 ≠ 6)
def qKn (z : Int32) : Prop := z = 1 ∨ z = 2 ∨ z = 3 ∨ z = 4 ∨ z = 5 ∨ z = 6
def qClk (n c : Nat) (σ : qSt) : Prop :=
  (∀ i, i < n → 0 ≤ (σ.1 0 i).toInt ∧ (σ.1 0 i).toInt + c ≤ 1000000 ∧ (σ.1 2 i).toInt ≤ (σ.1 0 i).toInt ∧ ∀ j, n ≤ j → j < 32 → q_has (σ.1 3 i) j = false) ∧
  (∀ f t, f < n → t < n → ∀ m ∈ σ.2.2.2.1 f t, qKn m.1 ∧ 0 ≤ m.2.2.toInt ∧ m.2.2.toInt + c ≤ 1000000)
def qInv (n k c : Nat) (σ : qSt) : Prop := (∀ i j, i < n → j < n → qG k σ i j) ∧ (∀ j, j < n → qV n σ j) ∧ qClk n c σ
/-! what stays -/
theorem tb_n {σ : qSt} {f x g i : Nat} {v : Int32} (h : g ≠ f) : (s_tb σ f x v).1 g i = σ.1 g i := q2_n (fun e => h e.1)
theorem tb_i {σ : qSt} {f x g i : Nat} {v : Int32} (h : i ≠ x) : (s_tb σ f x v).1 g i = σ.1 g i := q2_n (fun e => h e.2)
theorem tb_s {σ : qSt} {f x : Nat} {v : Int32} : (s_tb σ f x v).1 f x = v := q2_s
theorem qG.of {k i j : Nat} {σ τ : qSt} (h : qG k σ i j) (e0 : (σ.1 0 i).toInt ≤ (τ.1 0 i).toInt) (e1 : τ.1 1 i = σ.1 1 i) (e2 : τ.1 2 i = σ.1 2 i) (e3 : q_has (τ.1 3 i) j = q_has (σ.1 3 i) j) (e5 : q_has (τ.1 5 i) j = q_has (σ.1 5 i) j) (e6 : τ.1 6 j = σ.1 6 j) (el : lv (τ.2.1 j) i = lv (σ.2.1 j) i) (er : rv (τ.2.2.1 j) i = rv (σ.2.2.1 j) i) (eA : vA τ i j = vA σ i j) (eV : vV τ i j = vV σ i j) : qG k τ i j :=
  PG.eq h e0 e1 e2 e3 e5 e6 el er eA eV
/-- who hasn't the vote of j: j's 6 may change -/
theorem qG.of0 {k i j : Nat} {σ τ : qSt} (h : qG k σ i j) (hl : lv (σ.2.1 j) i = none) (e0 : (σ.1 0 i).toInt ≤ (τ.1 0 i).toInt) (e1 : τ.1 1 i = σ.1 1 i) (e2 : τ.1 2 i = σ.1 2 i) (e3 : q_has (τ.1 3 i) j = q_has (σ.1 3 i) j) (e5 : q_has (τ.1 5 i) j = q_has (σ.1 5 i) j) (el : lv (τ.2.1 j) i = none) (er : rv (τ.2.2.1 j) i = rv (σ.2.2.1 j) i) (eA : vA τ i j = vA σ i j) (eV : vV τ i j = vV σ i j) : qG k τ i j := by
  unfold qG at h
  rw [hl] at h
  exact PG.eq (h.anyiq (τ.1 6 j)) e0 e1 e2 e3 e5 rfl el er eA eV
theorem qV.of {n j : Nat} {σ τ : qSt} (h : qV n σ j) (hr : τ.2.2.1 j = σ.2.2.1 j) (hl : τ.2.1 j = σ.2.1 j) (hq : τ.1 6 j = σ.1 6 j) (hV : ∀ i, ∀ m ∈ vV τ i j, m ∈ vV σ i j) : qV n τ j := by
  obtain ⟨h1, h2, h3, h4, h5, h6⟩ := h
  unfold qV
  rw [hr, hl, hq]
  exact ⟨h1, h2, h3, h4, h5, fun e u x r g1 g2 g3 m hm => h6 e u x r g1 g2 g3 m (hV _ m hm)⟩
theorem qClk.send {n c f t : Nat} {σ : qSt} {kd tm : Int32} (h : qClk n c σ) (hf : f < n) (hk : qKn kd) : qClk n c (s_send σ f t kd tm) := by
  refine ⟨h.1, fun f' t' hf' ht' m hm => ?_⟩
  change m ∈ q2 σ.2.2.2.1 f t _ f' t' at hm
  by_cases he : f' = f ∧ t' = t
  · rw [he.1, he.2, q2_s] at hm
    rcases List.mem_append.1 hm with hm | hm
    · exact h.2 f t hf (he.2 ▸ ht') m hm
    · rw [List.mem_singleton.1 hm]; exact ⟨hk, (h.1 f hf).1, (h.1 f hf).2.1⟩
  · rw [q2_n he] at hm; exact h.2 f' t' hf' ht' m hm
theorem qClk.tb {n c g x : Nat} {σ : qSt} {v : Int32} (h : qClk n c σ) (h0 : g ≠ 0) (h2 : g ≠ 2) (h3 : g ≠ 3) : qClk n c (s_tb σ g x v) := by
  refine ⟨fun i hi => ?_, h.2⟩
  have e0 : (s_tb σ g x v).1 0 i = σ.1 0 i := q2_n (fun h => h0 h.1.symm)
  have e2 : (s_tb σ g x v).1 2 i = σ.1 2 i := q2_n (fun h => h2 h.1.symm)
  have e3 : (s_tb σ g x v).1 3 i = σ.1 3 i := q2_n (fun h => h3 h.1.symm)
  rw [e0, e2, e3]; exact h.1 i hi
theorem qClk.tb2 {n c x : Nat} {σ : qSt} {v : Int32} (h : qClk n c σ) (hv : x < n → v.toInt ≤ (σ.1 0 x).toInt) : qClk n c (s_tb σ 2 x v) := by
  refine ⟨fun i hi => ?_, h.2⟩
  have e0 : (s_tb σ 2 x v).1 0 i = σ.1 0 i := tb_n (by decide)
  have e3 : (s_tb σ 2 x v).1 3 i = σ.1 3 i := tb_n (by decide)
  rw [e0, e3]
  refine ⟨(h.1 i hi).1, (h.1 i hi).2.1, ?_, (h.1 i hi).2.2.2⟩
  by_cases he : i = x
  · subst he
    show (q2 σ.1 2 i v 2 i).toInt ≤ _
    rw [q2_s]; exact hv hi
  · show (q2 σ.1 2 x v 2 i).toInt ≤ _
    rw [q2_n (fun h => he h.2)]; exact (h.1 i hi).2.2.1
theorem qClk.tb3 {n c x : Nat} {σ : qSt} {v : Int32} (h : qClk n c σ) (hv : x < n → ∀ j, n ≤ j → j < 32 → q_has v j = false) : qClk n c (s_tb σ 3 x v) := by
  refine ⟨fun i hi => ?_, h.2⟩
  have e0 : (s_tb σ 3 x v).1 0 i = σ.1 0 i := tb_n (by decide)
  have e2 : (s_tb σ 3 x v).1 2 i = σ.1 2 i := tb_n (by decide)
  rw [e0, e2]
  refine ⟨(h.1 i hi).1, (h.1 i hi).2.1, (h.1 i hi).2.2.1, ?_⟩
  by_cases he : i = x
  · subst he
    show ∀ j, n ≤ j → j < 32 → q_has (q2 σ.1 3 i v 3 i) j = false
    rw [q2_s]; exact hv hi
  · show ∀ j, n ≤ j → j < 32 → q_has (q2 σ.1 3 x v 3 i) j = false
    rw [q2_n (fun h => he h.2)]; exact (h.1 i hi).2.2.2
/-- a later hour -/
theorem qClk.tb0 {n c x : Nat} {σ : qSt} {v : Int32} (h : qClk n c σ) (hv : x < n → (σ.1 0 x).toInt ≤ v.toInt ∧ v.toInt + c ≤ 1000000) : qClk n c (s_tb σ 0 x v) := by
  refine ⟨fun i hi => ?_, h.2⟩
  have e2 : (s_tb σ 0 x v).1 2 i = σ.1 2 i := tb_n (by decide)
  have e3 : (s_tb σ 0 x v).1 3 i = σ.1 3 i := tb_n (by decide)
  rw [e2, e3]
  have hh := h.1 i hi
  by_cases he : i = x
  · subst he
    show 0 ≤ (q2 σ.1 0 i v 0 i).toInt ∧ (q2 σ.1 0 i v 0 i).toInt + c ≤ 1000000 ∧ _ ≤ (q2 σ.1 0 i v 0 i).toInt ∧ _
    rw [q2_s]
    have := hv hi
    exact ⟨by omega, by omega, by omega, hh.2.2.2⟩
  · show 0 ≤ (q2 σ.1 0 x v 0 i).toInt ∧ (q2 σ.1 0 x v 0 i).toInt + c ≤ 1000000 ∧ _ ≤ (q2 σ.1 0 x v 0 i).toInt ∧ _
    rw [q2_n (fun h => he h.2)]; exact hh
theorem qClk.ln {n c x : Nat} {σ : qSt} {v : Option (Nat × Int32)} (h : qClk n c σ) : qClk n c (s_ln σ x v) := h
theorem qClk.rw {n c x : Nat} {σ : qSt} {v : List (Nat × Int32)} (h : qClk n c σ) : qClk n c (s_rw σ x v) := h
theorem qClk.en {n c : Nat} {σ : qSt} {v : Int32} (h : qClk n c σ) : qClk n c (s_en σ v) := h
theorem qClk.le {n c d : Nat} {σ : qSt} (h : qClk n c σ) (hd : d ≤ c) : qClk n d σ :=
  ⟨fun i hi => ⟨(h.1 i hi).1, by have := (h.1 i hi).2.1; omega, (h.1 i hi).2.2⟩, fun f t hf ht m hm => ⟨(h.2 f t hf ht m hm).1, (h.2 f t hf ht m hm).2.1, by have := (h.2 f t hf ht m hm).2.2; omega⟩⟩
theorem qInv.le {n k c d : Nat} {σ : qSt} (h : qInv n k c σ) (hd : d ≤ c) : qInv n k d σ := ⟨h.1, h.2.1, h.2.2.le hd⟩
theorem i_succ {x : Int32} (h0 : 0 ≤ x.toInt) (h1 : x.toInt ≤ 1000000) : (x + 1).toInt = x.toInt + 1 := by
  rw [Int32.toInt_add, show (1 : Int32).toInt = 1 from rfl, Int.bmod_def]
  split <;> omega
theorem i_max {x y : Int32} : (q_max x y).toInt = max x.toInt y.toInt := by
  unfold q_max
  by_cases h : x < y
  · rw [if_pos h]; rw [Int32.lt_iff_toInt_lt] at h; omega
  · rw [if_neg h]; rw [Int32.lt_iff_toInt_lt] at h; omega
