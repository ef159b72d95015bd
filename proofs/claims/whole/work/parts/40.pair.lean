/-! ONE THAT ASKS AND ONE THAT VOTES: the eight states of a pair. St, T: the asker's state and time; v, q: whether the voter is one of its votes, of its inquiries; iq: whether the voter has inquired; lt: the time of the asker's request that has the vote; rt: the times of its requests in the row; A: what lies from the asker to the voter, V: back. -/
def p_stale (T : Int32) (S : List (Int32 × Int32)) : Prop := S = [] ∨ ∃ t, t ≠ T ∧ S = [(4, t)]
def p_fail (T : Int32) (F : List (Int32 × Int32)) : Prop := F = [] ∨ F = [(6, T)]
def p_inq (T iq : Int32) (I : List (Int32 × Int32)) : Prop := I = [] ∨ (I = [(4, T)] ∧ iq = 1)
def PInv (St T : Int32) (v q : Bool) (iq : Int32) (lt : Option Int32) (rt : List Int32) (A V : List (Int32 × Int32)) : Prop :=
  (St = 0 ∧ v = false ∧ q = false ∧ lt = none ∧ rt = [] ∧ A = [] ∧ (V = [] ∨ ∃ t, V = [(4, t)])) ∨
  (St = 0 ∧ v = false ∧ q = false ∧ ∃ t, lt = some t ∧ rt = [] ∧ A = [(3, t)] ∧ p_inq t iq V) ∨
  (St = 1 ∧ v = false ∧ q = false ∧ ∃ t, t ≠ T ∧ lt = some t ∧ rt = [] ∧ A = [(3, t), (1, T)] ∧ p_inq t iq V) ∨
  (St = 1 ∧ v = false ∧ q = false ∧ lt = none ∧ rt = [] ∧ A = [(1, T)] ∧ p_stale T V) ∨
  (St = 1 ∧ v = false ∧ q = false ∧ lt = none ∧ rt = [T] ∧ A = [] ∧ ∃ S F, p_stale T S ∧ p_fail T F ∧ V = S ++ F) ∨
  (St = 1 ∧ v = false ∧ q = false ∧ lt = some T ∧ rt = [] ∧ A = [] ∧ ∃ S F I, p_stale T S ∧ p_fail T F ∧ p_inq T iq I ∧ V = S ++ (F ++ (2, T) :: I)) ∨
  ((St = 1 ∨ St = 2) ∧ v = true ∧ lt = some T ∧ rt = [] ∧ A = [] ∧ ((V = [] ∧ (q = true → iq = 1)) ∨ (V = [(4, T)] ∧ iq = 1 ∧ q = false))) ∨
  (St = 1 ∧ v = false ∧ q = false ∧ lt = some T ∧ rt = [] ∧ A = [(5, T)] ∧ V = [] ∧ iq = 1)
section PI
variable {St T : Int32} {v q : Bool} {iq : Int32} {lt : Option Int32} {rt : List Int32} {A V : List (Int32 × Int32)}
theorem PInv.request {T' : Int32} (h : PInv 0 T v q iq lt rt A V) (h1 : ∀ m ∈ V, m.2 ≠ T') (h2 : ∀ t, lt = some t → t ≠ T') : PInv 1 T' false false iq lt rt (A ++ [(1, T')]) V := by
  rcases h with ⟨-, -, -, hl, hr, ha, hv⟩ | ⟨-, -, -, t, hl, hr, ha, hv⟩ | ⟨hs, -⟩ | ⟨hs, -⟩ | ⟨hs, -⟩ | ⟨hs, -⟩ | ⟨hs, -⟩ | ⟨hs, -⟩
  · refine Or.inr (Or.inr (Or.inr (Or.inl ⟨rfl, rfl, rfl, hl, hr, by rw [ha]; rfl, ?_⟩)))
    rcases hv with hv | ⟨t, hv⟩
    · exact Or.inl hv
    · exact Or.inr ⟨t, h1 (4, t) (by rw [hv]; exact List.mem_cons_self), hv⟩
  · exact Or.inr (Or.inr (Or.inl ⟨rfl, rfl, rfl, t, h2 t hl, hl, hr, by rw [ha]; rfl, hv⟩))
  · exact absurd hs (by decide)
  · exact absurd hs (by decide)
  · exact absurd hs (by decide)
  · exact absurd hs (by decide)
  · exact absurd hs (by decide)
  · exact absurd hs (by decide)
/-- the cases of a state with the vote there -/
theorem PInv.voted (h : PInv St T true q iq lt rt A V) : (St = 1 ∨ St = 2) ∧ lt = some T ∧ rt = [] ∧ A = [] ∧ ((V = [] ∧ (q = true → iq = 1)) ∨ (V = [(4, T)] ∧ iq = 1 ∧ q = false)) := by
  rcases h with ⟨-, hv, -⟩ | ⟨-, hv, -⟩ | ⟨-, hv, -⟩ | ⟨-, hv, -⟩ | ⟨-, hv, -⟩ | ⟨-, hv, -⟩ | ⟨hs, -, h⟩ | ⟨-, hv, -⟩
  · cases hv
  · cases hv
  · cases hv
  · cases hv
  · cases hv
  · cases hv
  · exact ⟨hs, h⟩
  · cases hv
theorem PInv.inside (h : PInv 2 T v q iq lt rt A V) : v = true := by
  rcases h with ⟨hs, -⟩ | ⟨hs, -⟩ | ⟨hs, -⟩ | ⟨hs, -⟩ | ⟨hs, -⟩ | ⟨hs, -⟩ | ⟨-, hv, -⟩ | ⟨hs, -⟩
  · exact absurd hs (by decide)
  · exact absurd hs (by decide)
  · exact absurd hs (by decide)
  · exact absurd hs (by decide)
  · exact absurd hs (by decide)
  · exact absurd hs (by decide)
  · exact hv
  · exact absurd hs (by decide)
theorem PInv.release (h : PInv 2 T v q iq lt rt A V) : PInv 0 0 false false iq lt rt (A ++ [(3, T)]) V := by
  have hv := h.inside
  subst hv
  obtain ⟨-, hl, hr, ha, hV⟩ := h.voted
  refine Or.inr (Or.inl ⟨rfl, rfl, rfl, T, hl, hr, by rw [ha]; rfl, ?_⟩)
  rcases hV with ⟨hV, -⟩ | ⟨hV, hi, -⟩
  · exact Or.inl hV
  · exact Or.inr ⟨hV, hi⟩
theorem PInv.enter (h : PInv 1 T true q iq lt rt A V) : PInv 2 T true q iq lt rt A V := by
  obtain ⟨-, hl, hr, ha, hV⟩ := h.voted
  exact Or.inr (Or.inr (Or.inr (Or.inr (Or.inr (Or.inr (Or.inl ⟨Or.inr rfl, rfl, hl, hr, ha, hV⟩))))))
/-- a REQUEST comes -/
theorem PInv.asked {t : Int32} {A' : List (Int32 × Int32)} (h : PInv St T v q iq lt rt ((1, t) :: A') V) : t = T ∧ A' = [] ∧ St = 1 ∧ v = false ∧ q = false ∧ lt = none ∧ rt = [] ∧ p_stale T V := by
  rcases h with ⟨-, -, -, -, -, ha, -⟩ | ⟨-, -, -, t2, -, -, ha, -⟩ | ⟨-, -, -, t2, -, -, -, ha, -⟩ | ⟨hs, hv, hq, hl, hr, ha, hV⟩ | ⟨-, -, -, -, -, ha, -⟩ | ⟨-, -, -, -, -, ha, -⟩ | ⟨-, -, -, -, ha, -⟩ | ⟨-, -, -, -, -, ha, -⟩
  · cases ha
  · injection ha with h1 h2; injection h1 with h3 h4; exact absurd h3 (by decide)
  · injection ha with h1 h2; injection h1 with h3 h4; exact absurd h3 (by decide)
  · injection ha with h1 h2; injection h1 with h3 h4; exact ⟨h4, h2, hs, hv, hq, hl, hr, hV⟩
  · cases ha
  · cases ha
  · cases ha
  · injection ha with h1 h2; injection h1 with h3 h4; exact absurd h3 (by decide)
theorem PInv.lend0 (iq : Int32) (hV : p_stale T V) : PInv 1 T false false iq (some T) [] [] (V ++ [(2, T)]) :=
  Or.inr (Or.inr (Or.inr (Or.inr (Or.inr (Or.inl ⟨rfl, rfl, rfl, rfl, rfl, rfl, V, [], [], hV, Or.inl rfl, Or.inl rfl, rfl⟩)))))
theorem PInv.wait (iq : Int32) {F : List (Int32 × Int32)} (hV : p_stale T V) (hF : p_fail T F) : PInv 1 T false false iq none [T] [] (V ++ F) :=
  Or.inr (Or.inr (Or.inr (Or.inr (Or.inl ⟨rfl, rfl, rfl, rfl, rfl, rfl, V, F, hV, hF, rfl⟩))))
/-- one that waits -/
theorem PInv.waits {t : Int32} (h : PInv St T v q iq lt [t] A V) : t = T ∧ St = 1 ∧ v = false ∧ q = false ∧ lt = none ∧ A = [] ∧ ∃ S F, p_stale T S ∧ p_fail T F ∧ V = S ++ F := by
  rcases h with ⟨-, -, -, -, hr, -⟩ | ⟨-, -, -, t2, -, hr, -⟩ | ⟨-, -, -, t2, -, -, hr, -⟩ | ⟨-, -, -, -, hr, -⟩ | ⟨hs, hv, hq, hl, hr, ha, h⟩ | ⟨-, -, -, -, hr, -⟩ | ⟨-, -, -, hr, -⟩ | ⟨-, -, -, -, hr, -⟩
  · cases hr
  · cases hr
  · cases hr
  · cases hr
  · injection hr with h1 h2; exact ⟨h1, hs, hv, hq, hl, ha, h⟩
  · cases hr
  · cases hr
  · cases hr
theorem PInv.failed {t : Int32} (h : PInv St T v q iq lt [t] A V) (hn : ∀ m ∈ V, m.1 ≠ 6) (iq' : Int32) : PInv St T v q iq' lt [t] A (V ++ [(6, t)]) := by
  obtain ⟨ht, hs, hv, hq, hl, ha, S, F, hS, hF, hV⟩ := h.waits
  subst ht hs hv hq hl ha
  have hF0 : F = [] := by
    rcases hF with h | h
    · exact h
    · exact absurd rfl (hn (6, t) (by rw [hV, h]; exact List.mem_append_right _ List.mem_cons_self))
  subst hF0
  rw [hV, List.append_nil]
  exact PInv.wait iq' hS (Or.inr rfl)
theorem PInv.lendW {t : Int32} (h : PInv St T v q iq lt [t] A V) : PInv St T v q 0 (some t) [] A (V ++ [(2, t)]) := by
  obtain ⟨ht, hs, hv, hq, hl, ha, S, F, hS, hF, hV⟩ := h.waits
  subst ht hs hv hq hl ha
  rw [hV, List.append_assoc]
  exact Or.inr (Or.inr (Or.inr (Or.inr (Or.inr (Or.inl ⟨rfl, rfl, rfl, rfl, rfl, rfl, S, F, [], hS, hF, Or.inl rfl, rfl⟩)))))
theorem PInv.inquire {t : Int32} (h : PInv St T v q 0 (some t) rt A V) : PInv St T v q 1 (some t) rt A (V ++ [(4, t)]) := by
  have h10 : ¬ (0 : Int32) = 1 := by decide
  rcases h with ⟨-, -, -, hl, -⟩ | ⟨hs, hv, hq, t2, hl, hr, ha, hV⟩ | ⟨hs, hv, hq, t2, hn, hl, hr, ha, hV⟩ | ⟨-, -, -, hl, -⟩ | ⟨-, -, -, hl, -⟩ | ⟨hs, hv, hq, hl, hr, ha, S, F, I, hS, hF, hI, hV⟩ | ⟨hs, hv, hl, hr, ha, hV⟩ | ⟨-, -, -, -, -, -, -, hi⟩
  · cases hl
  · injection hl with hl; subst hl
    rcases hV with hV | ⟨-, hi⟩
    · subst hV; exact Or.inr (Or.inl ⟨hs, hv, hq, t, rfl, hr, ha, Or.inr ⟨rfl, rfl⟩⟩)
    · exact absurd hi h10
  · injection hl with hl; subst hl
    rcases hV with hV | ⟨-, hi⟩
    · subst hV; exact Or.inr (Or.inr (Or.inl ⟨hs, hv, hq, t, hn, rfl, hr, ha, Or.inr ⟨rfl, rfl⟩⟩))
    · exact absurd hi h10
  · cases hl
  · cases hl
  · injection hl with hl; subst hl
    rcases hI with hI | ⟨-, hi⟩
    · subst hI
      refine Or.inr (Or.inr (Or.inr (Or.inr (Or.inr (Or.inl ⟨hs, hv, hq, rfl, hr, ha, S, F, [(4, t)], hS, hF, Or.inr ⟨rfl, rfl⟩, ?_⟩)))))
      rw [hV]; simp
    · exact absurd hi h10
  · injection hl with hl; subst hl
    rcases hV with ⟨hV, hq⟩ | ⟨-, hi, -⟩
    · have hq0 : q = false := by cases q with | false => rfl | true => exact absurd (hq rfl) h10
      subst hV
      exact Or.inr (Or.inr (Or.inr (Or.inr (Or.inr (Or.inr (Or.inl ⟨hs, hv, rfl, hr, ha, Or.inr ⟨rfl, rfl, hq0⟩⟩))))))
    · exact absurd hi h10
  · exact absurd hi h10
/-- a RELEASE comes -/
theorem PInv.released {t : Int32} {A' : List (Int32 × Int32)} (h : PInv St T v q iq lt rt ((3, t) :: A') V) : lt = some t ∧ rt = [] ∧ ∀ iq', PInv St T v q iq' none [] A' V := by
  rcases h with ⟨-, -, -, -, -, ha, -⟩ | ⟨hs, hv, hq, t2, hl, hr, ha, hV⟩ | ⟨hs, hv, hq, t2, hn, hl, hr, ha, hV⟩ | ⟨-, -, -, -, -, ha, -⟩ | ⟨-, -, -, -, -, ha, -⟩ | ⟨-, -, -, -, -, ha, -⟩ | ⟨-, -, -, -, ha, -⟩ | ⟨-, -, -, -, -, ha, -⟩
  · cases ha
  · injection ha with h1 h2; injection h1 with h3 h4; subst h4 h2
    refine ⟨hl, hr, fun iq' => Or.inl ⟨hs, hv, hq, rfl, rfl, rfl, ?_⟩⟩
    rcases hV with hV | ⟨hV, -⟩
    · exact Or.inl hV
    · exact Or.inr ⟨t, hV⟩
  · injection ha with h1 h2; injection h1 with h3 h4; subst h4 h2
    refine ⟨hl, hr, fun iq' => Or.inr (Or.inr (Or.inr (Or.inl ⟨hs, hv, hq, rfl, rfl, rfl, ?_⟩)))⟩
    rcases hV with hV | ⟨hV, -⟩
    · exact Or.inl hV
    · exact Or.inr ⟨t, hn, hV⟩
  · injection ha with h1 h2; injection h1 with h3 h4; exact absurd h3 (by decide)
  · cases ha
  · cases ha
  · cases ha
  · injection ha with h1 h2; injection h1 with h3 h4; exact absurd h3 (by decide)
/-- a RELINQUISH comes -/
theorem PInv.gaveUp {t : Int32} {A' : List (Int32 × Int32)} (h : PInv St T v q iq lt rt ((5, t) :: A') V) : t = T ∧ A' = [] ∧ St = 1 ∧ v = false ∧ q = false ∧ lt = some T ∧ rt = [] ∧ V = [] := by
  rcases h with ⟨-, -, -, -, -, ha, -⟩ | ⟨-, -, -, t2, -, -, ha, -⟩ | ⟨-, -, -, t2, -, -, -, ha, -⟩ | ⟨-, -, -, -, -, ha, -⟩ | ⟨-, -, -, -, -, ha, -⟩ | ⟨-, -, -, -, -, ha, -⟩ | ⟨-, -, -, -, ha, -⟩ | ⟨hs, hv, hq, hl, hr, ha, hV, -⟩
  · cases ha
  · injection ha with h1 h2; injection h1 with h3 h4; exact absurd h3 (by decide)
  · injection ha with h1 h2; injection h1 with h3 h4; exact absurd h3 (by decide)
  · injection ha with h1 h2; injection h1 with h3 h4; exact absurd h3 (by decide)
  · cases ha
  · cases ha
  · cases ha
  · injection ha with h1 h2; injection h1 with h3 h4; exact ⟨h4, h2, hs, hv, hq, hl, hr, hV⟩
/-- who hasn't the vote doesn't look at whether the voter has inquired -/
theorem PInv.anyiq (h : PInv St T v q iq none rt A V) (iq' : Int32) : PInv St T v q iq' none rt A V := by
  rcases h with h | ⟨-, -, -, t2, hl, -⟩ | ⟨-, -, -, t2, -, hl, -⟩ | h | h | ⟨-, -, -, hl, -⟩ | ⟨-, -, hl, -⟩ | ⟨-, -, -, hl, -⟩
  · exact Or.inl h
  · cases hl
  · cases hl
  · exact Or.inr (Or.inr (Or.inr (Or.inl h)))
  · exact Or.inr (Or.inr (Or.inr (Or.inr (Or.inl h))))
  · cases hl
  · cases hl
  · cases hl
/-- a LOCKED comes -/
theorem PInv.locked {t : Int32} {V' : List (Int32 × Int32)} (h : PInv St T v q iq lt rt A ((2, t) :: V')) : t = T ∧ St = 1 ∧ PInv St T true q iq lt rt A V' := by
  rcases h with ⟨-, -, -, -, -, -, hV⟩ | ⟨-, -, -, t2, -, -, -, hV⟩ | ⟨-, -, -, t2, -, -, -, -, hV⟩ | ⟨-, -, -, -, -, -, hV⟩ | ⟨-, -, -, -, -, -, S, F, hS, hF, hV⟩ | ⟨hs, hv, hq, hl, hr, ha, S, F, I, hS, hF, hI, hV⟩ | ⟨-, -, -, -, -, hV⟩ | ⟨-, -, -, -, -, -, hV, -⟩
  · rcases hV with hV | ⟨t3, hV⟩ <;> cases hV
  · rcases hV with hV | ⟨hV, -⟩ <;> cases hV
  · rcases hV with hV | ⟨hV, -⟩ <;> cases hV
  · rcases hV with hV | ⟨t3, -, hV⟩ <;> cases hV
  · rcases hS with hS | ⟨t3, -, hS⟩ <;> rcases hF with hF | hF <;> subst hS <;> subst hF <;> cases hV
  · rcases hS with hS | ⟨t3, -, hS⟩ <;> rcases hF with hF | hF <;> subst hS <;> subst hF
    · injection hV with h1 h2; injection h1 with h3 h4
      subst h4 h2
      refine ⟨rfl, hs, Or.inr (Or.inr (Or.inr (Or.inr (Or.inr (Or.inr (Or.inl ⟨Or.inl hs, rfl, hl, hr, ha, ?_⟩))))))⟩
      rcases hI with hI | ⟨hI, hi⟩
      · exact Or.inl ⟨hI, fun hq2 => by rw [hq] at hq2; cases hq2⟩
      · exact Or.inr ⟨hI, hi, hq⟩
    · cases hV
    · cases hV
    · cases hV
  · rcases hV with ⟨hV, -⟩ | ⟨hV, -⟩ <;> cases hV
  · cases hV
/-- a FAILED comes -/
theorem PInv.heardF {t : Int32} {V' : List (Int32 × Int32)} (h : PInv St T v q iq lt rt A ((6, t) :: V')) : t = T ∧ St = 1 ∧ PInv St T v q iq lt rt A V' := by
  rcases h with ⟨-, -, -, -, -, -, hV⟩ | ⟨-, -, -, t2, -, -, -, hV⟩ | ⟨-, -, -, t2, -, -, -, -, hV⟩ | ⟨-, -, -, -, -, -, hV⟩ | ⟨hs, hv, hq, hl, hr, ha, S, F, hS, hF, hV⟩ | ⟨hs, hv, hq, hl, hr, ha, S, F, I, hS, hF, hI, hV⟩ | ⟨-, -, -, -, -, hV⟩ | ⟨-, -, -, -, -, -, hV, -⟩
  · rcases hV with hV | ⟨t3, hV⟩ <;> cases hV
  · rcases hV with hV | ⟨hV, -⟩ <;> cases hV
  · rcases hV with hV | ⟨hV, -⟩ <;> cases hV
  · rcases hV with hV | ⟨t3, -, hV⟩ <;> cases hV
  · rcases hS with hS | ⟨t3, -, hS⟩ <;> rcases hF with hF | hF <;> subst hS <;> subst hF
    · cases hV
    · injection hV with h1 h2; injection h1 with h3 h4
      subst h4 h2
      exact ⟨rfl, hs, Or.inr (Or.inr (Or.inr (Or.inr (Or.inl ⟨hs, hv, hq, hl, hr, ha, [], [], Or.inl rfl, Or.inl rfl, rfl⟩))))⟩
    · cases hV
    · cases hV
  · rcases hS with hS | ⟨t3, -, hS⟩ <;> rcases hF with hF | hF <;> subst hS <;> subst hF
    · cases hV
    · injection hV with h1 h2; injection h1 with h3 h4
      subst h4 h2
      exact ⟨rfl, hs, Or.inr (Or.inr (Or.inr (Or.inr (Or.inr (Or.inl ⟨hs, hv, hq, hl, hr, ha, [], [], I, Or.inl rfl, Or.inl rfl, hI, rfl⟩)))))⟩
    · cases hV
    · cases hV
  · rcases hV with ⟨hV, -⟩ | ⟨hV, -⟩ <;> cases hV
  · cases hV
/-- an INQUIRE comes that is left out -/
theorem PInv.heardI {t : Int32} {V' : List (Int32 × Int32)} (h : PInv St T v q iq lt rt A ((4, t) :: V')) (hn : ¬ ((St = 1 ∧ T = t) ∧ v = true)) : PInv St T v q iq lt rt A V' := by
  rcases h with ⟨hs, hv, hq, hl, hr, ha, hV⟩ | ⟨hs, hv, hq, t2, hl, hr, ha, hV⟩ | ⟨hs, hv, hq, t2, hne, hl, hr, ha, hV⟩ | ⟨hs, hv, hq, hl, hr, ha, hV⟩ | ⟨hs, hv, hq, hl, hr, ha, S, F, hS, hF, hV⟩ | ⟨hs, hv, hq, hl, hr, ha, S, F, I, hS, hF, hI, hV⟩ | ⟨hs, hv, hl, hr, ha, hV⟩ | ⟨-, -, -, -, -, -, hV, -⟩
  · refine Or.inl ⟨hs, hv, hq, hl, hr, ha, Or.inl ?_⟩
    rcases hV with hV | ⟨t3, hV⟩
    · cases hV
    · injection hV
  · refine Or.inr (Or.inl ⟨hs, hv, hq, t2, hl, hr, ha, Or.inl ?_⟩)
    rcases hV with hV | ⟨hV, -⟩
    · cases hV
    · injection hV
  · refine Or.inr (Or.inr (Or.inl ⟨hs, hv, hq, t2, hne, hl, hr, ha, Or.inl ?_⟩))
    rcases hV with hV | ⟨hV, -⟩
    · cases hV
    · injection hV
  · refine Or.inr (Or.inr (Or.inr (Or.inl ⟨hs, hv, hq, hl, hr, ha, Or.inl ?_⟩)))
    rcases hV with hV | ⟨t3, -, hV⟩
    · cases hV
    · injection hV
  · rcases hS with hS | ⟨t3, -, hS⟩ <;> subst hS
    · rcases hF with hF | hF <;> subst hF <;> cases hV
    · injection hV with h1 h2
      exact Or.inr (Or.inr (Or.inr (Or.inr (Or.inl ⟨hs, hv, hq, hl, hr, ha, [], F, Or.inl rfl, hF, h2⟩))))
  · rcases hS with hS | ⟨t3, -, hS⟩ <;> subst hS
    · rcases hF with hF | hF <;> subst hF <;> cases hV
    · injection hV with h1 h2
      exact Or.inr (Or.inr (Or.inr (Or.inr (Or.inr (Or.inl ⟨hs, hv, hq, hl, hr, ha, [], F, I, Or.inl rfl, hF, hI, h2⟩)))))
  · rcases hV with ⟨hV, -⟩ | ⟨hV, hi, hq⟩
    · cases hV
    · injection hV with h1 h2; injection h1 with h3 h4
      rcases hs with hs | hs
      · exact absurd ⟨⟨hs, h4.symm⟩, hv⟩ hn
      · exact Or.inr (Or.inr (Or.inr (Or.inr (Or.inr (Or.inr (Or.inl ⟨Or.inr hs, hv, hl, hr, ha, Or.inl ⟨h2, fun _ => hi⟩⟩))))))
  · cases hV
/-- an INQUIRE comes that counts -/
theorem PInv.askedBack {t : Int32} {V' : List (Int32 × Int32)} (h : PInv 1 T true q iq lt rt A ((4, t) :: V')) : t = T ∧ V' = [] ∧ lt = some T ∧ rt = [] ∧ A = [] ∧ iq = 1 ∧ q = false := by
  obtain ⟨-, hl, hr, ha, hV⟩ := h.voted
  rcases hV with ⟨hV, -⟩ | ⟨hV, hi, hq⟩
  · cases hV
  · injection hV with h1 h2; injection h1 with h3 h4
    exact ⟨h4, h2, hl, hr, ha, hi, hq⟩
theorem PInv.keepI : PInv 1 T true true 1 (some T) [] [] [] := Or.inr (Or.inr (Or.inr (Or.inr (Or.inr (Or.inr (Or.inl ⟨Or.inl rfl, rfl, rfl, rfl, rfl, Or.inl ⟨rfl, fun _ => rfl⟩⟩))))))
theorem PInv.giveI : PInv 1 T false false 1 (some T) [] [(5, T)] [] := Or.inr (Or.inr (Or.inr (Or.inr (Or.inr (Or.inr (Or.inr ⟨rfl, rfl, rfl, rfl, rfl, rfl, rfl, rfl⟩))))))
theorem PInv.giveUp (h : PInv 1 T true true iq lt rt A V) : PInv 1 T false false iq lt rt (A ++ [(5, T)]) V := by
  obtain ⟨-, hl, hr, ha, hV⟩ := h.voted
  rcases hV with ⟨hV, hq⟩ | ⟨-, -, hq⟩
  · have hi := hq rfl
    subst hl hr ha hV hi
    exact PInv.giveI
  · cases hq
/-- how much lies there -/
theorem PInv.few (h : PInv St T v q iq lt rt A V) : A.length ≤ 2 ∧ V.length ≤ 4 ∧ rt.length ≤ 1 ∧ (lt ≠ none → rt = []) := by
  have hS : ∀ {T : Int32} {S : List (Int32 × Int32)}, p_stale T S → S.length ≤ 1 := fun h => by
    rcases h with h | ⟨t, -, h⟩ <;> subst h <;> simp
  have hF : ∀ {T : Int32} {S : List (Int32 × Int32)}, p_fail T S → S.length ≤ 1 := fun h => by
    rcases h with h | h <;> subst h <;> simp
  have hI : ∀ {T iq : Int32} {S : List (Int32 × Int32)}, p_inq T iq S → S.length ≤ 1 := fun h => by
    rcases h with h | ⟨h, -⟩ <;> subst h <;> simp
  rcases h with ⟨-, -, -, hl, hr, ha, hV⟩ | ⟨-, -, -, t2, hl, hr, ha, hV⟩ | ⟨-, -, -, t2, -, hl, hr, ha, hV⟩ | ⟨-, -, -, hl, hr, ha, hV⟩ | ⟨-, -, -, hl, hr, ha, S, F, h1, h2, hV⟩ | ⟨-, -, -, hl, hr, ha, S, F, I, h1, h2, h3, hV⟩ | ⟨-, -, hl, hr, ha, hV⟩ | ⟨-, -, -, hl, hr, ha, hV, -⟩ <;> subst ha <;> subst hr
  · rcases hV with hV | ⟨t3, hV⟩ <;> subst hV <;> simp
  · have := hI hV; simp; omega
  · have := hI hV; simp; omega
  · have := hS hV; simp; omega
  · have := hS h1; have := hF h2; subst hV; subst hl; simp; omega
  · have := hS h1; have := hF h2; have := hI h3; subst hV; simp; omega
  · rcases hV with ⟨hV, -⟩ | ⟨hV, -⟩ <;> subst hV <;> simp
  · subst hV; simp
end PI
