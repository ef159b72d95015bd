/-! THE CLASS'S WORLD: where its cells lie (kind, number), and what they hold of a state -/
def qd (n a b : Nat) : Prop := (a < 10 ∧ b = 0) ∨ (10 ≤ a ∧ a < 15 ∧ b < n)
def qL (n : Nat) (ad : Nat → Nat → Nat) : Prop := ∀ a b a' b' : Nat, qd n a b → qd n a' b' → ad a b = ad a' b' → a = a' ∧ b = b'
def qA (n : Nat) (ad : Nat → Nat → Nat) : Nat → Prop := fun q => ∃ a b : Nat, qd n a b ∧ q = ad a b
abbrev q_refs (f : Nat → Option Nat) : ((Nat → Int32) ⊕ (Nat → Int64) ⊕ (Nat → UInt32) ⊕ (Nat → UInt64) ⊕ (Nat → Option Nat)) := .inr (.inr (.inr (.inr f)))
def qC (dd : va_G) (ga : Nat → ClassId) (n k : Nat) (ad : Nat → Nat → Nat) (σ : qSt) (H : Heap) : Prop :=
  va_at dd vwCl (ad 0 0, .inr (4, [.int (nI n), .ref (ad 1 0), .ref (ad 2 0), .ref (ad 3 0), .ref (ad 4 0), .ref (ad 5 0), .int σ.2.2.2.2])) H ∧
  va_at dd vwCl (ad 1 0, .inl (ga 0, n, .inl (fun j => q_quo k j n))) H ∧
  va_at dd vwCl (ad 2 0, .inl (ga 0, n, .inl (σ.1 0))) H ∧
  va_at dd vwCl (ad 3 0, .inl (ga 2, n, q_refs (fun j => some (ad 10 j)))) H ∧
  va_at dd vwCl (ad 4 0, .inl (ga 3, n, q_refs (fun j => some (ad 11 j)))) H ∧
  qWir dd ga n (ad 5 0) (ad 6 0) (ad 7 0) (ad 8 0) (ad 9 0) σ.2.2.2.1 H ∧
  (∀ i : Nat, i < n → va_at dd vwCl (ad 10 i, .inr (0, [.int (σ.1 1 i), .int (σ.1 2 i), .int (σ.1 3 i), .int (σ.1 4 i), .int (σ.1 5 i)])) H) ∧
  (∀ i : Nat, i < n → qVot dd (ad 11 i) (ad 12 i) (σ.2.1 i) (σ.1 6 i) H) ∧
  (∀ i : Nat, i < n → qRow dd ga (2 * k - 1) (ad 12 i) (ad 13 i) (ad 14 i) (σ.2.2.1 i) H)
/-- what a step leans on: room on the wires and in the rows, nodes that are there -/
def qCap (n k : Nat) (σ : qSt) : Prop :=
  (∀ f t : Nat, f < n → t < n → (σ.2.2.2.1 f t).length ≤ 6) ∧ (∀ i : Nat, i < n → (σ.2.2.1 i).length < 2 * k - 1) ∧
  (∀ i : Nat, i < n → ∀ x ∈ σ.2.2.1 i, x.1 < n) ∧ (∀ i : Nat, i < n → ∀ x : Nat × Int32, σ.2.1 i = some x → x.1 < n) ∧ (∀ i : Nat, i < n → σ.1 6 i = 0 ∨ σ.1 6 i = 1)
/-- the square: n nodes, a side of k -/
def qSq (n k : Nat) : Prop := n = k * k ∧ 1 ≤ k ∧ k ≤ 4
theorem qSq.n {n k : Nat} (h : qSq n k) : 1 ≤ n ∧ n ≤ 16 := by
  obtain ⟨rfl, h1, h2⟩ := h
  exact ⟨Nat.mul_le_mul h1 h1, Nat.mul_le_mul h2 h2⟩
section QC
variable {dd : va_G} {ga : Nat → ClassId} {n k : Nat} {ad : Nat → Nat → Nat} {σ σ' : qSt} {H H1 : Heap}
theorem qC.self (h : qC dd ga n k ad σ H) : va_at dd vwCl (ad 0 0, .inr (4, [.int (nI n), .ref (ad 1 0), .ref (ad 2 0), .ref (ad 3 0), .ref (ad 4 0), .ref (ad 5 0), .int σ.2.2.2.2])) H := h.1
theorem qC.quo (h : qC dd ga n k ad σ H) : va_at dd vwCl (ad 1 0, .inl (ga 0, n, .inl (fun j => q_quo k j n))) H := h.2.1
theorem qC.clk (h : qC dd ga n k ad σ H) : va_at dd vwCl (ad 2 0, .inl (ga 0, n, .inl (σ.1 0))) H := h.2.2.1
theorem qC.arA (h : qC dd ga n k ad σ H) : va_at dd vwCl (ad 3 0, .inl (ga 2, n, q_refs (fun j => some (ad 10 j)))) H := h.2.2.2.1
theorem qC.arV (h : qC dd ga n k ad σ H) : va_at dd vwCl (ad 4 0, .inl (ga 3, n, q_refs (fun j => some (ad 11 j)))) H := h.2.2.2.2.1
theorem qC.wir (h : qC dd ga n k ad σ H) : qWir dd ga n (ad 5 0) (ad 6 0) (ad 7 0) (ad 8 0) (ad 9 0) σ.2.2.2.1 H := h.2.2.2.2.2.1
theorem qC.ask (h : qC dd ga n k ad σ H) (i : Nat) (hi : i < n) : va_at dd vwCl (ad 10 i, .inr (0, [.int (σ.1 1 i), .int (σ.1 2 i), .int (σ.1 3 i), .int (σ.1 4 i), .int (σ.1 5 i)])) H := h.2.2.2.2.2.2.1 i hi
theorem qC.vot (h : qC dd ga n k ad σ H) (i : Nat) (hi : i < n) : va_at dd vwCl (ad 11 i, .inr (2, [.ref (ad 12 i), .int (q_on (σ.2.1 i)), .int (q_ot (σ.2.1 i)), .int (σ.1 6 i)])) H := h.2.2.2.2.2.2.2.1 i hi
theorem qC.row (h : qC dd ga n k ad σ H) (i : Nat) (hi : i < n) : qRow dd ga (2 * k - 1) (ad 12 i) (ad 13 i) (ad 14 i) (σ.2.2.1 i) H := h.2.2.2.2.2.2.2.2 i hi
theorem qRow.obj {q h0 h1 h2 : Nat} {r : List (Nat × Int32)} (h : qRow dd ga q h0 h1 h2 r H) : va_at dd vwCl (h0, .inr (1, [.ref h1, .ref h2, .int (nI r.length)])) H := by obtain ⟨f, g, h, -⟩ := h; exact h
theorem qWir.obj {h0 h1 h2 h3 h4 : Nat} {w : Nat → Nat → List qM} (h : qWir dd ga n h0 h1 h2 h3 h4 w H) : va_at dd vwCl (h0, .inr (3, [.int (nI n), .ref h1, .ref h2, .ref h3, .ref h4])) H := by obtain ⟨P, O, Y, F, h, -⟩ := h; exact h
theorem qRow.kept {q h0 h1 h2 : Nat} {r : List (Nat × Int32)} (h : qRow dd ga q h0 h1 h2 r H) (e0 : H1[h0]? = H[h0]?) (e1 : H1[h1]? = H[h1]?) (e2 : H1[h2]? = H[h2]?) : qRow dd ga q h0 h1 h2 r H1 := by
  obtain ⟨f, g, a, b, c, d⟩ := h
  exact ⟨f, g, qa_kept a e0, qa_kept b e1, qa_kept c e2, d⟩
theorem qWir.kept {h0 h1 h2 h3 h4 : Nat} {w : Nat → Nat → List qM} (h : qWir dd ga n h0 h1 h2 h3 h4 w H) (e0 : H1[h0]? = H[h0]?) (e1 : H1[h1]? = H[h1]?) (e2 : H1[h2]? = H[h2]?) (e3 : H1[h3]? = H[h3]?) (e4 : H1[h4]? = H[h4]?) : qWir dd ga n h0 h1 h2 h3 h4 w H1 := by
  obtain ⟨P, O, Y, F, a, b, c, d, e, f⟩ := h
  exact ⟨P, O, Y, F, qa_kept a e0, qa_kept b e1, qa_kept c e2, qa_kept d e3, qa_kept e e4, f⟩
theorem qd.z {a : Nat} (h : a < 10) : qd n a 0 := Or.inl ⟨h, rfl⟩
theorem qd.i {a i : Nat} (h1 : 10 ≤ a) (h2 : a < 15) (hi : i < n) : qd n a i := Or.inr ⟨h1, h2, hi⟩
theorem qL.ne (hL : qL n ad) {a b a' b' : Nat} (h : qd n a b) (h' : qd n a' b') (hn : ¬ (a = a' ∧ b = b')) : ad a b ≠ ad a' b' := fun e => hn (hL a b a' b' h h' e)
/-- the same heap where it matters -/
theorem qC.same (h : qC dd ga n k ad σ H) (hO : ∀ q : Nat, H1[q]? = H[q]?) : qC dd ga n k ad σ H1 :=
  ⟨qa_kept h.self (hO _), qa_kept h.quo (hO _), qa_kept h.clk (hO _), qa_kept h.arA (hO _), qa_kept h.arV (hO _), h.wir.kept (hO _) (hO _) (hO _) (hO _) (hO _), fun i hi => qa_kept (h.ask i hi) (hO _), fun i hi => qa_kept (h.vot i hi) (hO _), fun i hi => (h.row i hi).kept (hO _) (hO _) (hO _)⟩
theorem qC.putAsk (hL : qL n ad) (h : qC dd ga n k ad σ H) {i : Nat} (hi : i < n) (hO : ∀ q : Nat, q ≠ ad 10 i → H1[q]? = H[q]?) (hn : va_at dd vwCl (ad 10 i, .inr (0, [.int (σ'.1 1 i), .int (σ'.1 2 i), .int (σ'.1 3 i), .int (σ'.1 4 i), .int (σ'.1 5 i)])) H1)
    (e1 : ∀ f j : Nat, ¬ ((1 ≤ f ∧ f ≤ 5) ∧ j = i) → σ'.1 f j = σ.1 f j) (e2 : σ'.2 = σ.2) : qC dd ga n k ad σ' H1 := by
  have hd := qd.i (n := n) (a := 10) (by decide) (by decide) hi
  have hz : ∀ a : Nat, a < 10 → H1[ad a 0]? = H[ad a 0]? := fun a ha => hO _ (hL.ne (qd.z ha) hd (by omega))
  have hj : ∀ a j : Nat, 10 < a → a < 15 → j < n → H1[ad a j]? = H[ad a j]? := fun a j h1 h2 h3 => hO _ (hL.ne (qd.i (by omega) h2 h3) hd (by omega))
  refine ⟨?_, qa_kept h.quo (hz 1 (by decide)), ?_, qa_kept h.arA (hz 3 (by decide)), qa_kept h.arV (hz 4 (by decide)), ?_, fun j hjn => ?_, fun j hjn => ?_, fun j hjn => ?_⟩
  · rw [e2]; exact qa_kept h.self (hz 0 (by decide))
  · rw [show σ'.1 0 = σ.1 0 from funext fun j => e1 0 j (by omega)]; exact qa_kept h.clk (hz 2 (by decide))
  · rw [e2]; exact h.wir.kept (hz 5 (by decide)) (hz 6 (by decide)) (hz 7 (by decide)) (hz 8 (by decide)) (hz 9 (by decide))
  · by_cases hji : j = i
    · subst hji; exact hn
    · rw [e1 1 j (by omega), e1 2 j (by omega), e1 3 j (by omega), e1 4 j (by omega), e1 5 j (by omega)]
      exact qa_kept (h.ask j hjn) (hO _ (hL.ne (qd.i (by decide) (by decide) hjn) hd (by omega)))
  · rw [e1 6 j (by omega), e2]; exact qa_kept (h.vot j hjn) (hj 11 j (by decide) (by decide) hjn)
  · rw [e2]; exact (h.row j hjn).kept (hj 12 j (by decide) (by decide) hjn) (hj 13 j (by decide) (by decide) hjn) (hj 14 j (by decide) (by decide) hjn)
theorem qC.putVot (hL : qL n ad) (h : qC dd ga n k ad σ H) {i : Nat} (hi : i < n) (hO : ∀ q : Nat, q ≠ ad 11 i → H1[q]? = H[q]?) (hn : qVot dd (ad 11 i) (ad 12 i) (σ'.2.1 i) (σ'.1 6 i) H1)
    (e1 : ∀ f j : Nat, ¬ (f = 6 ∧ j = i) → σ'.1 f j = σ.1 f j) (e2 : ∀ j : Nat, j ≠ i → σ'.2.1 j = σ.2.1 j) (e3 : σ'.2.2 = σ.2.2) : qC dd ga n k ad σ' H1 := by
  have hd := qd.i (n := n) (a := 11) (by decide) (by decide) hi
  have hz : ∀ a : Nat, a < 10 → H1[ad a 0]? = H[ad a 0]? := fun a ha => hO _ (hL.ne (qd.z ha) hd (by omega))
  have hj : ∀ a j : Nat, 10 ≤ a → a ≠ 11 → a < 15 → j < n → H1[ad a j]? = H[ad a j]? := fun a j h1 h0 h2 h3 => hO _ (hL.ne (qd.i (by omega) h2 h3) hd (by omega))
  refine ⟨?_, qa_kept h.quo (hz 1 (by decide)), ?_, qa_kept h.arA (hz 3 (by decide)), qa_kept h.arV (hz 4 (by decide)), ?_, fun j hjn => ?_, fun j hjn => ?_, fun j hjn => ?_⟩
  · rw [e3]; exact qa_kept h.self (hz 0 (by decide))
  · rw [show σ'.1 0 = σ.1 0 from funext fun j => e1 0 j (by omega)]; exact qa_kept h.clk (hz 2 (by decide))
  · rw [e3]; exact h.wir.kept (hz 5 (by decide)) (hz 6 (by decide)) (hz 7 (by decide)) (hz 8 (by decide)) (hz 9 (by decide))
  · rw [e1 1 j (by omega), e1 2 j (by omega), e1 3 j (by omega), e1 4 j (by omega), e1 5 j (by omega)]
    exact qa_kept (h.ask j hjn) (hj 10 j (by decide) (by decide) (by decide) hjn)
  · by_cases hji : j = i
    · subst hji; exact hn
    · rw [e1 6 j (by omega), e2 j hji]; exact qa_kept (h.vot j hjn) (hO _ (hL.ne (qd.i (by decide) (by decide) hjn) hd (by omega)))
  · rw [e3]; exact (h.row j hjn).kept (hj 12 j (by decide) (by decide) (by decide) hjn) (hj 13 j (by decide) (by decide) (by decide) hjn) (hj 14 j (by decide) (by decide) (by decide) hjn)
theorem qC.putRow (hL : qL n ad) (h : qC dd ga n k ad σ H) {i : Nat} (hi : i < n) (hO : ∀ q : Nat, ¬ (q = ad 12 i ∨ q = ad 13 i ∨ q = ad 14 i) → H1[q]? = H[q]?) (hn : qRow dd ga (2 * k - 1) (ad 12 i) (ad 13 i) (ad 14 i) (σ'.2.2.1 i) H1)
    (e1 : σ'.1 = σ.1) (e2 : σ'.2.1 = σ.2.1) (e3 : ∀ j : Nat, j ≠ i → σ'.2.2.1 j = σ.2.2.1 j) (e4 : σ'.2.2.2 = σ.2.2.2) : qC dd ga n k ad σ' H1 := by
  have hd : ∀ a : Nat, 12 ≤ a → a < 15 → qd n a i := fun a h1 h2 => qd.i (by omega) h2 hi
  have hx : ∀ a b : Nat, qd n a b → ¬ (12 ≤ a ∧ b = i) → H1[ad a b]? = H[ad a b]? := fun a b h1 h2 => hO _ (fun h3 => by
    rcases h3 with h3 | h3 | h3
    · have := hL _ _ _ _ h1 (hd 12 (by decide) (by decide)) h3; omega
    · have := hL _ _ _ _ h1 (hd 13 (by decide) (by decide)) h3; omega
    · have := hL _ _ _ _ h1 (hd 14 (by decide) (by decide)) h3; omega)
  have hz : ∀ a : Nat, a < 10 → H1[ad a 0]? = H[ad a 0]? := fun a ha => hx a 0 (qd.z ha) (by omega)
  refine ⟨?_, qa_kept h.quo (hz 1 (by decide)), ?_, qa_kept h.arA (hz 3 (by decide)), qa_kept h.arV (hz 4 (by decide)), ?_, fun j hjn => ?_, fun j hjn => ?_, fun j hjn => ?_⟩
  · rw [e4]; exact qa_kept h.self (hz 0 (by decide))
  · rw [e1]; exact qa_kept h.clk (hz 2 (by decide))
  · rw [e4]; exact h.wir.kept (hz 5 (by decide)) (hz 6 (by decide)) (hz 7 (by decide)) (hz 8 (by decide)) (hz 9 (by decide))
  · rw [e1]; exact qa_kept (h.ask j hjn) (hx 10 j (qd.i (by decide) (by decide) hjn) (by omega))
  · rw [e1, e2]; exact qa_kept (h.vot j hjn) (hx 11 j (qd.i (by decide) (by decide) hjn) (by omega))
  · by_cases hji : j = i
    · subst hji; exact hn
    · rw [e3 j hji]; exact (h.row j hjn).kept (hx 12 j (qd.i (by decide) (by decide) hjn) (by omega)) (hx 13 j (qd.i (by decide) (by decide) hjn) (by omega)) (hx 14 j (qd.i (by decide) (by decide) hjn) (by omega))
theorem qC.putWir (hL : qL n ad) (h : qC dd ga n k ad σ H) (hO : ∀ q : Nat, ¬ (q = ad 5 0 ∨ q = ad 6 0 ∨ q = ad 7 0 ∨ q = ad 8 0 ∨ q = ad 9 0) → H1[q]? = H[q]?) (hn : qWir dd ga n (ad 5 0) (ad 6 0) (ad 7 0) (ad 8 0) (ad 9 0) σ'.2.2.2.1 H1)
    (e1 : σ'.1 = σ.1) (e2 : σ'.2.1 = σ.2.1) (e3 : σ'.2.2.1 = σ.2.2.1) (e4 : σ'.2.2.2.2 = σ.2.2.2.2) : qC dd ga n k ad σ' H1 := by
  have hx : ∀ a b : Nat, qd n a b → ¬ (5 ≤ a ∧ a ≤ 9) → H1[ad a b]? = H[ad a b]? := fun a b h1 h2 => hO _ (fun h3 => by
    rcases h3 with h3 | h3 | h3 | h3 | h3
    · have := hL _ _ _ _ h1 (qd.z (by decide)) h3; omega
    · have := hL _ _ _ _ h1 (qd.z (by decide)) h3; omega
    · have := hL _ _ _ _ h1 (qd.z (by decide)) h3; omega
    · have := hL _ _ _ _ h1 (qd.z (by decide)) h3; omega
    · have := hL _ _ _ _ h1 (qd.z (by decide)) h3; omega)
  have hz : ∀ a : Nat, a < 5 → H1[ad a 0]? = H[ad a 0]? := fun a ha => hx a 0 (qd.z (by omega)) (by omega)
  refine ⟨?_, qa_kept h.quo (hz 1 (by decide)), ?_, qa_kept h.arA (hz 3 (by decide)), qa_kept h.arV (hz 4 (by decide)), hn, fun j hjn => ?_, fun j hjn => ?_, fun j hjn => ?_⟩
  · rw [e4]; exact qa_kept h.self (hz 0 (by decide))
  · rw [e1]; exact qa_kept h.clk (hz 2 (by decide))
  · rw [e1]; exact qa_kept (h.ask j hjn) (hx 10 j (qd.i (by decide) (by decide) hjn) (by omega))
  · rw [e1, e2]; exact qa_kept (h.vot j hjn) (hx 11 j (qd.i (by decide) (by decide) hjn) (by omega))
  · rw [e3]; exact (h.row j hjn).kept (hx 12 j (qd.i (by decide) (by decide) hjn) (by omega)) (hx 13 j (qd.i (by decide) (by decide) hjn) (by omega)) (hx 14 j (qd.i (by decide) (by decide) hjn) (by omega))
theorem qC.putClk (hL : qL n ad) (h : qC dd ga n k ad σ H) (hO : ∀ q : Nat, q ≠ ad 2 0 → H1[q]? = H[q]?) (hn : va_at dd vwCl (ad 2 0, .inl (ga 0, n, .inl (σ'.1 0))) H1)
    (e1 : ∀ f j : Nat, f ≠ 0 → σ'.1 f j = σ.1 f j) (e2 : σ'.2 = σ.2) : qC dd ga n k ad σ' H1 := by
  have hx : ∀ a b : Nat, qd n a b → a ≠ 2 → H1[ad a b]? = H[ad a b]? := fun a b h1 h2 => hO _ (hL.ne h1 (qd.z (by decide)) (by omega))
  have hz : ∀ a : Nat, a < 10 → a ≠ 2 → H1[ad a 0]? = H[ad a 0]? := fun a ha h2 => hx a 0 (qd.z (by omega)) h2
  refine ⟨?_, qa_kept h.quo (hz 1 (by decide) (by decide)), hn, qa_kept h.arA (hz 3 (by decide) (by decide)), qa_kept h.arV (hz 4 (by decide) (by decide)), ?_, fun j hjn => ?_, fun j hjn => ?_, fun j hjn => ?_⟩
  · rw [e2]; exact qa_kept h.self (hz 0 (by decide) (by decide))
  · rw [e2]; exact h.wir.kept (hz 5 (by decide) (by decide)) (hz 6 (by decide) (by decide)) (hz 7 (by decide) (by decide)) (hz 8 (by decide) (by decide)) (hz 9 (by decide) (by decide))
  · rw [e1 1 j (by omega), e1 2 j (by omega), e1 3 j (by omega), e1 4 j (by omega), e1 5 j (by omega)]
    exact qa_kept (h.ask j hjn) (hx 10 j (qd.i (by decide) (by decide) hjn) (by omega))
  · rw [e1 6 j (by omega), e2]; exact qa_kept (h.vot j hjn) (hx 11 j (qd.i (by decide) (by decide) hjn) (by omega))
  · rw [e2]; exact (h.row j hjn).kept (hx 12 j (qd.i (by decide) (by decide) hjn) (by omega)) (hx 13 j (qd.i (by decide) (by decide) hjn) (by omega)) (hx 14 j (qd.i (by decide) (by decide) hjn) (by omega))
theorem qC.putEn (hL : qL n ad) (h : qC dd ga n k ad σ H) (hO : ∀ q : Nat, q ≠ ad 0 0 → H1[q]? = H[q]?) {v : Int32} (hn : va_at dd vwCl (ad 0 0, .inr (4, [.int (nI n), .ref (ad 1 0), .ref (ad 2 0), .ref (ad 3 0), .ref (ad 4 0), .ref (ad 5 0), .int v])) H1) : qC dd ga n k ad (s_en σ v) H1 := by
  have hx : ∀ a b : Nat, qd n a b → a ≠ 0 → H1[ad a b]? = H[ad a b]? := fun a b h1 h2 => hO _ (hL.ne h1 (qd.z (by decide)) (by omega))
  have hz : ∀ a : Nat, a < 10 → a ≠ 0 → H1[ad a 0]? = H[ad a 0]? := fun a ha h2 => hx a 0 (qd.z (by omega)) h2
  exact ⟨hn, qa_kept h.quo (hz 1 (by decide) (by decide)), qa_kept h.clk (hz 2 (by decide) (by decide)), qa_kept h.arA (hz 3 (by decide) (by decide)), qa_kept h.arV (hz 4 (by decide) (by decide)), h.wir.kept (hz 5 (by decide) (by decide)) (hz 6 (by decide) (by decide)) (hz 7 (by decide) (by decide)) (hz 8 (by decide) (by decide)) (hz 9 (by decide) (by decide)), fun j hjn => qa_kept (h.ask j hjn) (hx 10 j (qd.i (by decide) (by decide) hjn) (by omega)), fun j hjn => qa_kept (h.vot j hjn) (hx 11 j (qd.i (by decide) (by decide) hjn) (by omega)), fun j hjn => (h.row j hjn).kept (hx 12 j (qd.i (by decide) (by decide) hjn) (by omega)) (hx 13 j (qd.i (by decide) (by decide) hjn) (by omega)) (hx 14 j (qd.i (by decide) (by decide) hjn) (by omega))⟩
end QC
