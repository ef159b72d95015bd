/-! THE REFERENCE'S WORLD: one object, sixteen arrays (by their fields' order) -/
def q_aty (ga : Nat → ClassId) (a : Nat) : ClassId := if a = 9 then ga 1 else ga 0
def q_alen (a : Nat) : Nat := if a ≤ 10 then 16 else if a ≤ 12 then 1024 else if a = 13 then 256 else 16384
def qLr (ar : Nat → Nat) : Prop := ∀ a b : Nat, a ≤ 16 → b ≤ 16 → ar a = ar b → a = b
def qAr (ar : Nat → Nat) : Nat → Prop := fun q => ∃ a : Nat, a ≤ 16 ∧ q = ar a
def qR0 (dd : va_G) (ga : Nat → ClassId) (n k : Nat) (ar : Nat → Nat) (ρ : Nat → Nat → Int32) (en : Int32) (H : Heap) : Prop :=
  va_at dd vwCl (ar 0, .inr (5, [.int (nI k), .int (nI n), .ref (ar 1), .ref (ar 2), .ref (ar 3), .ref (ar 4), .ref (ar 5), .ref (ar 6), .ref (ar 7), .ref (ar 8), .ref (ar 9), .ref (ar 10), .ref (ar 11), .ref (ar 12), .ref (ar 13), .ref (ar 14), .ref (ar 15), .ref (ar 16), .int en])) H ∧ ∀ a : Nat, 1 ≤ a → a ≤ 16 → va_at dd vwCl (ar a, .inl (q_aty ga a, q_alen a, .inl (ρ a))) H
/-- where the table's rows lie -/
def q_ai (f : Nat) : Nat := if f = 6 then 9 else f + 1
/-- what the arrays hold of a state -/
def qRp (n : Nat) (σ : qSt) (ρ : Nat → Nat → Int32) : Prop :=
  (∀ f i : Nat, f ≤ 6 → i < n → ρ (q_ai f) i = σ.1 f i) ∧
  (∀ i : Nat, i < n → ρ 7 i = q_on (σ.2.1 i) ∧ (∀ x : Nat × Int32, σ.2.1 i = some x → ρ 8 i = x.2)) ∧
  (∀ i : Nat, i < n → ρ 10 i = nI (σ.2.2.1 i).length ∧ (σ.2.2.1 i).length ≤ 32 ∧ ∀ (j : Nat) (x : Nat × Int32), (σ.2.2.1 i)[j]? = some x → ρ 11 (64 * i + j) = nI x.1 ∧ ρ 12 (64 * i + j) = x.2) ∧
  (∀ f t : Nat, f < 16 → t < 16 → ρ 13 (16 * f + t) = nI (σ.2.2.2.1 f t).length ∧ (σ.2.2.2.1 f t).length ≤ 32 ∧ ∀ (j : Nat) (x : qM), (σ.2.2.2.1 f t)[j]? = some x → ρ 14 (64 * (16 * f + t) + j) = x.1 ∧ ρ 15 (64 * (16 * f + t) + j) = x.2.1 ∧ ρ 16 (64 * (16 * f + t) + j) = x.2.2) ∧
  (∀ f t : Nat, ¬ (f < n ∧ t < n) → σ.2.2.2.1 f t = [])
def qR (dd : va_G) (ga : Nat → ClassId) (n k : Nat) (ar : Nat → Nat) (σ : qSt) (H : Heap) : Prop := ∃ ρ : Nat → Nat → Int32, qRp n σ ρ ∧ qR0 dd ga n k ar ρ σ.2.2.2.2 H
section QR0
variable {dd : va_G} {ga : Nat → ClassId} {n k : Nat} {ar : Nat → Nat} {ρ : Nat → Nat → Int32} {en : Int32} {H H1 : Heap} {σ : qSt}
theorem qR0.self (h : qR0 dd ga n k ar ρ en H) : va_at dd vwCl (ar 0, .inr (5, [.int (nI k), .int (nI n), .ref (ar 1), .ref (ar 2), .ref (ar 3), .ref (ar 4), .ref (ar 5), .ref (ar 6), .ref (ar 7), .ref (ar 8), .ref (ar 9), .ref (ar 10), .ref (ar 11), .ref (ar 12), .ref (ar 13), .ref (ar 14), .ref (ar 15), .ref (ar 16), .int en])) H := h.1
theorem qR0.a1 (h : qR0 dd ga n k ar ρ en H) : va_at dd vwCl (ar 1, .inl (ga 0, 16, .inl (ρ 1))) H := h.2 1 (by decide) (by decide)
theorem qR0.a2 (h : qR0 dd ga n k ar ρ en H) : va_at dd vwCl (ar 2, .inl (ga 0, 16, .inl (ρ 2))) H := h.2 2 (by decide) (by decide)
theorem qR0.a3 (h : qR0 dd ga n k ar ρ en H) : va_at dd vwCl (ar 3, .inl (ga 0, 16, .inl (ρ 3))) H := h.2 3 (by decide) (by decide)
theorem qR0.a4 (h : qR0 dd ga n k ar ρ en H) : va_at dd vwCl (ar 4, .inl (ga 0, 16, .inl (ρ 4))) H := h.2 4 (by decide) (by decide)
theorem qR0.a5 (h : qR0 dd ga n k ar ρ en H) : va_at dd vwCl (ar 5, .inl (ga 0, 16, .inl (ρ 5))) H := h.2 5 (by decide) (by decide)
theorem qR0.a6 (h : qR0 dd ga n k ar ρ en H) : va_at dd vwCl (ar 6, .inl (ga 0, 16, .inl (ρ 6))) H := h.2 6 (by decide) (by decide)
theorem qR0.a7 (h : qR0 dd ga n k ar ρ en H) : va_at dd vwCl (ar 7, .inl (ga 0, 16, .inl (ρ 7))) H := h.2 7 (by decide) (by decide)
theorem qR0.a8 (h : qR0 dd ga n k ar ρ en H) : va_at dd vwCl (ar 8, .inl (ga 0, 16, .inl (ρ 8))) H := h.2 8 (by decide) (by decide)
theorem qR0.a9 (h : qR0 dd ga n k ar ρ en H) : va_at dd vwCl (ar 9, .inl (ga 1, 16, .inl (ρ 9))) H := h.2 9 (by decide) (by decide)
theorem qR0.a10 (h : qR0 dd ga n k ar ρ en H) : va_at dd vwCl (ar 10, .inl (ga 0, 16, .inl (ρ 10))) H := h.2 10 (by decide) (by decide)
theorem qR0.a11 (h : qR0 dd ga n k ar ρ en H) : va_at dd vwCl (ar 11, .inl (ga 0, 1024, .inl (ρ 11))) H := h.2 11 (by decide) (by decide)
theorem qR0.a12 (h : qR0 dd ga n k ar ρ en H) : va_at dd vwCl (ar 12, .inl (ga 0, 1024, .inl (ρ 12))) H := h.2 12 (by decide) (by decide)
theorem qR0.a13 (h : qR0 dd ga n k ar ρ en H) : va_at dd vwCl (ar 13, .inl (ga 0, 256, .inl (ρ 13))) H := h.2 13 (by decide) (by decide)
theorem qR0.a14 (h : qR0 dd ga n k ar ρ en H) : va_at dd vwCl (ar 14, .inl (ga 0, 16384, .inl (ρ 14))) H := h.2 14 (by decide) (by decide)
theorem qR0.a15 (h : qR0 dd ga n k ar ρ en H) : va_at dd vwCl (ar 15, .inl (ga 0, 16384, .inl (ρ 15))) H := h.2 15 (by decide) (by decide)
theorem qR0.a16 (h : qR0 dd ga n k ar ρ en H) : va_at dd vwCl (ar 16, .inl (ga 0, 16384, .inl (ρ 16))) H := h.2 16 (by decide) (by decide)
theorem qR0.same (h : qR0 dd ga n k ar ρ en H) (hO : ∀ q : Nat, H1[q]? = H[q]?) : qR0 dd ga n k ar ρ en H1 := ⟨qa_kept h.1 (hO _), fun a h1 h2 => qa_kept (h.2 a h1 h2) (hO _)⟩
theorem qR.same (h : qR dd ga n k ar σ H) (hO : ∀ q : Nat, H1[q]? = H[q]?) : qR dd ga n k ar σ H1 := by obtain ⟨ρ, h1, h2⟩ := h; exact ⟨ρ, h1, h2.same hO⟩
theorem qR0.put (hL : qLr ar) (h : qR0 dd ga n k ar ρ en H) (a i : Nat) (v : Int32) (h1 : 1 ≤ a) (h2 : a ≤ 16) (hO : ∀ q : Nat, q ≠ ar a → H1[q]? = H[q]?) (hn : va_at dd vwCl (ar a, .inl (q_aty ga a, q_alen a, .inl (upd (ρ a) i v))) H1) : qR0 dd ga n k ar (q2 ρ a i v) en H1 := by
  refine ⟨qa_kept h.1 (hO _ (fun e => by have := hL 0 a (by decide) h2 e; omega)), fun b h3 h4 => ?_⟩
  by_cases hb : b = a
  · subst hb
    rw [show q2 ρ b i v b = upd (ρ b) i v from by funext j; by_cases hj : j = i <;> simp [q2, upd, hj]]
    exact hn
  · rw [show q2 ρ a i v b = ρ b from by funext j; simp [q2, hb]]
    exact qa_kept (h.2 b h3 h4) (hO _ (fun e => hb (hL b a h4 h2 e)))
theorem qR0.putEn (hL : qLr ar) (h : qR0 dd ga n k ar ρ en H) {v : Int32} (hO : ∀ q : Nat, q ≠ ar 0 → H1[q]? = H[q]?) (hn : va_at dd vwCl (ar 0, .inr (5, [.int (nI k), .int (nI n), .ref (ar 1), .ref (ar 2), .ref (ar 3), .ref (ar 4), .ref (ar 5), .ref (ar 6), .ref (ar 7), .ref (ar 8), .ref (ar 9), .ref (ar 10), .ref (ar 11), .ref (ar 12), .ref (ar 13), .ref (ar 14), .ref (ar 15), .ref (ar 16), .int v])) H1) : qR0 dd ga n k ar ρ v H1 :=
  ⟨hn, fun b h3 h4 => qa_kept (h.2 b h3 h4) (hO _ (fun e => by have := hL b 0 h4 (by decide) e; omega))⟩
end QR0
section QRP
variable {n : Nat} {σ : qSt} {ρ : Nat → Nat → Int32}
theorem q_ai_inj {f g : Nat} (hf : f ≤ 6) (hg : g ≤ 6) (h : q_ai f = q_ai g) : f = g := by
  unfold q_ai at h
  split at h <;> split at h <;> omega
theorem q_ai_n {f : Nat} (hf : f ≤ 6) : q_ai f ≠ 7 ∧ q_ai f ≠ 8 ∧ q_ai f ≠ 10 ∧ q_ai f ≠ 11 ∧ q_ai f ≠ 12 ∧ q_ai f ≠ 13 ∧ q_ai f ≠ 14 ∧ q_ai f ≠ 15 ∧ q_ai f ≠ 16 := by
  unfold q_ai
  split <;> omega
theorem qRp.t (h : qRp n σ ρ) (f i : Nat) (hf : f ≤ 6) (hi : i < n) : ρ (q_ai f) i = σ.1 f i := h.1 f i hf hi
theorem qRp.stb (h : qRp n σ ρ) (f i : Nat) (v : Int32) (hf : f ≤ 6) : qRp n (s_tb σ f i v) (q2 ρ (q_ai f) i v) := by
  have hn := q_ai_n hf
  refine ⟨fun g j hg hj => ?_, fun j hj => ?_, fun j hj => ?_, fun f9 t9 hf9 ht9 => ?_, h.2.2.2.2⟩
  · show q2 ρ (q_ai f) i v (q_ai g) j = q2 σ.1 f i v g j
    by_cases hc : g = f ∧ j = i
    · obtain ⟨rfl, rfl⟩ := hc; rw [q2_s, q2_s]
    · rw [q2_n hc, q2_n (fun hc2 => hc ⟨q_ai_inj hg hf hc2.1, hc2.2⟩)]; exact h.1 g j hg hj
  · rw [q2_n (by omega), q2_n (by omega)]; exact h.2.1 j hj
  · refine ⟨?_, (h.2.2.1 j hj).2.1, fun j9 x9 hx => ?_⟩
    · rw [q2_n (by omega)]; exact (h.2.2.1 j hj).1
    · rw [q2_n (by omega), q2_n (by omega)]; exact (h.2.2.1 j hj).2.2 j9 x9 hx
  · refine ⟨?_, (h.2.2.2.1 f9 t9 hf9 ht9).2.1, fun j9 x9 hx => ?_⟩
    · rw [q2_n (by omega)]; exact (h.2.2.2.1 f9 t9 hf9 ht9).1
    · rw [q2_n (by omega), q2_n (by omega), q2_n (by omega)]; exact (h.2.2.2.1 f9 t9 hf9 ht9).2.2 j9 x9 hx
theorem qRp.en (h : qRp n σ ρ) (v : Int32) : qRp n (s_en σ v) ρ := h
theorem qRp.send (hn : n ≤ 16) (h : qRp n σ ρ) {f t : Nat} (hf : f < n) (ht : t < n) (kd tm : Int32) (hl : (σ.2.2.2.1 f t).length ≤ 8) : qRp n (s_send σ f t kd tm) (q2 (q2 (q2 (q2 ρ 14 (64 * (16 * f + t) + (σ.2.2.2.1 f t).length) kd) 15 (64 * (16 * f + t) + (σ.2.2.2.1 f t).length) tm) 16 (64 * (16 * f + t) + (σ.2.2.2.1 f t).length) (σ.1 0 f)) 13 (16 * f + t) (nI ((σ.2.2.2.1 f t).length + 1))) := by
  refine ⟨fun g j hg hj => ?_, fun j hj => ?_, fun j hj => ?_, fun f9 t9 hf9 ht9 => ?_, fun f9 t9 hc => ?_⟩
  · have := q_ai_n hg
    rw [q2_n (by omega), q2_n (by omega), q2_n (by omega), q2_n (by omega)]; exact h.1 g j hg hj
  · rw [q2_n (by omega), q2_n (by omega), q2_n (by omega), q2_n (by omega), q2_n (by omega), q2_n (by omega), q2_n (by omega), q2_n (by omega)]; exact h.2.1 j hj
  · refine ⟨?_, (h.2.2.1 j hj).2.1, fun j9 x9 hx => ?_⟩
    · rw [q2_n (by omega), q2_n (by omega), q2_n (by omega), q2_n (by omega)]; exact (h.2.2.1 j hj).1
    · rw [q2_n (by omega), q2_n (by omega), q2_n (by omega), q2_n (by omega), q2_n (by omega), q2_n (by omega), q2_n (by omega), q2_n (by omega)]; exact (h.2.2.1 j hj).2.2 j9 x9 hx
  · have hb := h.2.2.2.1 f9 t9 hf9 ht9
    show _ = nI (q2 σ.2.2.2.1 f t _ f9 t9).length ∧ (q2 σ.2.2.2.1 f t _ f9 t9).length ≤ 32 ∧ ∀ (j : Nat) (x : qM), (q2 σ.2.2.2.1 f t _ f9 t9)[j]? = some x → _
    by_cases hc : f9 = f ∧ t9 = t
    · obtain ⟨rfl, rfl⟩ := hc
      rw [q2_s, q2_s]
      refine ⟨by rw [List.length_append]; rfl, by rw [List.length_append]; simp; omega, fun j x hx => ?_⟩
      rcases Nat.lt_or_ge j (σ.2.2.2.1 f9 t9).length with hj | hj
      · rw [List.getElem?_append_left hj] at hx
        have hne : ¬ j = (σ.2.2.2.1 f9 t9).length := by omega
        simp only [q2]
        refine ⟨?_, ?_, ?_⟩
        · rw [if_neg (by omega), if_neg (by omega), if_neg (by omega), if_neg (by omega)]; exact (hb.2.2 j x hx).1
        · rw [if_neg (by omega), if_neg (by omega), if_neg (by omega), if_neg (by omega)]; exact (hb.2.2 j x hx).2.1
        · rw [if_neg (by omega), if_neg (by omega), if_neg (by omega), if_neg (by omega)]; exact (hb.2.2 j x hx).2.2
      · rw [List.getElem?_append_right hj] at hx
        have h4 := (List.getElem?_eq_some_iff.mp hx).1
        have h5 : j = (σ.2.2.2.1 f9 t9).length := by simp at h4; omega
        subst h5
        rw [Nat.sub_self] at hx
        cases hx
        simp only [q2]
        refine ⟨?_, ?_, ?_⟩
        · simp
        · simp
        · simp
    · rw [q2_n hc, q2_n (by omega), q2_n (by omega), q2_n (by omega), q2_n (by omega)]
      refine ⟨hb.1, hb.2.1, fun j x hx => ?_⟩
      have h4 := (List.getElem?_eq_some_iff.mp hx).1
      rw [q2_n (by omega), q2_n (by omega), q2_n (by omega), q2_n (by omega), q2_n (by omega), q2_n (by omega), q2_n (by omega), q2_n (by omega), q2_n (by omega), q2_n (by omega), q2_n (by omega), q2_n (by omega)]
      exact hb.2.2 j x hx
  · show q2 σ.2.2.2.1 f t _ f9 t9 = []
    rw [q2_n (fun h9 => hc (by obtain ⟨rfl, rfl⟩ := h9; exact ⟨hf, ht⟩))]
    exact h.2.2.2.2 f9 t9 hc
end QRP
