/-! the class's maker -/
def qPc2 (dd : va_G) (ga : Nat → ClassId) (av : List Value) (P : Heap → Prop) : Array Value → State → Prop := va_Pc av (fun U => P U.heap ∧ qK dd ga U ∧ va_AO "QuorumLock$Asker" U ∧ va_AO "QuorumLock$Voter" U)
theorem qpreS2 {dd : va_G} {ga : Nat → ClassId} {s : State} {H : Heap} {av : List Value} {P : Heap → Prop} (hK : qK dd ga s) (h1 : va_AO "QuorumLock$Asker" s) (h2 : va_AO "QuorumLock$Voter" s) (hP : P H) : PreS s H (qPc2 dd ga av P) av :=
  ⟨fun _ U _ _ q => ⟨q.1, q.2.1, q.2.2.1.calling, va_AO.moved (Vm.Alike.refl U.vm) q.2.2.2.1, va_AO.moved (Vm.Alike.refl U.vm) q.2.2.2.2⟩, fun U hU hW => ⟨rfl, by rw [hU]; exact hP, hK.warm hW, va_AO.moved hW.alike h1, va_AO.moved hW.alike h2⟩⟩
theorem q_kk_mm (x : Int32) : (if 4 < (if x < 1 then 1 else x) then 4 else (if x < 1 then 1 else x)) = nI (q_kk x) := by
  by_cases h1 : x < 1
  · rw [if_pos h1, if_neg (by decide)]; unfold q_kk; rw [if_pos h1]; rfl
  · rw [if_neg h1]
    by_cases h2 : 4 < x
    · rw [if_pos h2]; unfold q_kk; rw [if_neg h1, if_pos h2]; rfl
    · rw [if_neg h2]; exact q_kk_v h1 h2
/-- the nodes' cells, of the first i -/
def qBk (dd : va_G) (ga : Nat → ClassId) (q i : Nat) (g : Nat → Nat → Nat) (H : Heap) : Prop := (∀ j, j < i → va_at dd vwCl (g 10 j, .inr (0, [.int 0, .int 0, .int 0, .int 0, .int 0])) H) ∧ (∀ j, j < i → va_at dd vwCl (g 11 j, .inr (2, [.ref (g 12 j), .int 0, .int 0, .int 0])) H) ∧ (∀ j, j < i → qRow dd ga q (g 12 j) (g 13 j) (g 14 j) [] H)
theorem qBk.kept {dd : va_G} {ga : Nat → ClassId} {q i lo hi : Nat} {g : Nat → Nat → Nat} {H H1 : Heap} (h : qBk dd ga q i g H) (hg : ∀ a j, 10 ≤ a → a < 15 → j < i → lo < g a j ∧ g a j < hi) (ho : ∀ z : Nat, lo < z → z < hi → H1[z]? = H[z]?) : qBk dd ga q i g H1 := by
  have hk : ∀ a j, 10 ≤ a → a < 15 → j < i → H1[g a j]? = H[g a j]? := fun a j h1 h2 h3 => ho _ (hg a j h1 h2 h3).1 (hg a j h1 h2 h3).2
  exact ⟨fun j hj => qa_kept (h.1 j hj) (hk 10 j (by decide) (by decide) hj), fun j hj => qa_kept (h.2.1 j hj) (hk 11 j (by decide) (by decide) hj), fun j hj => (h.2.2 j hj).kept (hk 12 j (by decide) (by decide) hj) (hk 13 j (by decide) (by decide) hj) (hk 14 j (by decide) (by decide) hj)⟩
def q_gx (g : Nat → Nat → Nat) (i a0 v0 r0 r1 r2 : Nat) : Nat → Nat → Nat := fun a j => if j = i then (if a = 10 then a0 else if a = 11 then v0 else if a = 12 then r0 else if a = 13 then r1 else r2) else g a j
theorem q_gx_o {g : Nat → Nat → Nat} {i a0 v0 r0 r1 r2 a j : Nat} (h : j ≠ i) : q_gx g i a0 v0 r0 r1 r2 a j = g a j := by simp [q_gx, h]
theorem q_gx_n {g : Nat → Nat → Nat} {i a0 v0 r0 r1 r2 : Nat} : q_gx g i a0 v0 r0 r1 r2 10 i = a0 ∧ q_gx g i a0 v0 r0 r1 r2 11 i = v0 ∧ q_gx g i a0 v0 r0 r1 r2 12 i = r0 ∧ q_gx g i a0 v0 r0 r1 r2 13 i = r1 ∧ q_gx g i a0 v0 r0 r1 r2 14 i = r2 := by simp [q_gx]
theorem qBk.add {dd : va_G} {ga : Nat → ClassId} {q i a0 v0 r0 r1 r2 : Nat} {g : Nat → Nat → Nat} {H : Heap} (h : qBk dd ga q i g H) (ha : va_at dd vwCl (a0, .inr (0, [.int 0, .int 0, .int 0, .int 0, .int 0])) H) (hv : va_at dd vwCl (v0, .inr (2, [.ref r0, .int 0, .int 0, .int 0])) H) (hr : qRow dd ga q r0 r1 r2 [] H) : qBk dd ga q (i + 1) (q_gx g i a0 v0 r0 r1 r2) H := by
  have e := q_gx_n (g := g) (i := i) (a0 := a0) (v0 := v0) (r0 := r0) (r1 := r1) (r2 := r2)
  refine ⟨fun j hj => ?_, fun j hj => ?_, fun j hj => ?_⟩ <;> by_cases hji : j = i
  · subst hji; rw [e.1]; exact ha
  · rw [q_gx_o hji]; exact h.1 j (by omega)
  · subst hji; rw [e.2.1, e.2.2.1]; exact hv
  · rw [q_gx_o hji, q_gx_o hji]; exact h.2.1 j (by omega)
  · subst hji; rw [e.2.2.1, e.2.2.2.1, e.2.2.2.2]; exact hr
  · rw [q_gx_o hji, q_gx_o hji, q_gx_o hji]; exact h.2.2 j (by omega)
theorem q_gx_in {g : Nat → Nat → Nat} {i a0 v0 r0 r1 r2 lo mid hi : Nat} (hg : ∀ a j, 10 ≤ a → a < 15 → j < i → lo < g a j ∧ g a j < mid) (h1 : lo < mid) (ha : mid ≤ a0 ∧ a0 < hi) (hv : mid ≤ v0 ∧ v0 < hi) (h2 : mid ≤ r0 ∧ r0 < hi) (h3 : mid ≤ r1 ∧ r1 < hi) (h4 : mid ≤ r2 ∧ r2 < hi) : ∀ a j, 10 ≤ a → a < 15 → j < i + 1 → lo < q_gx g i a0 v0 r0 r1 r2 a j ∧ q_gx g i a0 v0 r0 r1 r2 a j < hi := by
  intro a j h5 h6 h7
  have e := q_gx_n (g := g) (i := i) (a0 := a0) (v0 := v0) (r0 := r0) (r1 := r1) (r2 := r2)
  by_cases hji : j = i
  · subst hji
    rcases (show a = 10 ∨ a = 11 ∨ a = 12 ∨ a = 13 ∨ a = 14 by omega) with h | h | h | h | h <;> subst h
    · rw [e.1]; omega
    · rw [e.2.1]; omega
    · rw [e.2.2.1]; omega
    · rw [e.2.2.2.1]; omega
    · rw [e.2.2.2.2]; omega
  · rw [q_gx_o hji]
    have := hg a j h5 h6 (by omega)
    omega
theorem q_gx_inj {g : Nat → Nat → Nat} {i a0 v0 r0 r1 r2 mid : Nat} (hj : ∀ a j a' j', 10 ≤ a → a < 15 → j < i → 10 ≤ a' → a' < 15 → j' < i → g a j = g a' j' → a = a' ∧ j = j') (hg : ∀ a j, 10 ≤ a → a < 15 → j < i → g a j < mid) (hm : mid ≤ a0 ∧ mid ≤ v0 ∧ mid ≤ r0 ∧ mid ≤ r1 ∧ mid ≤ r2) (hd : a0 ≠ v0 ∧ a0 ≠ r0 ∧ a0 ≠ r1 ∧ a0 ≠ r2 ∧ v0 ≠ r0 ∧ v0 ≠ r1 ∧ v0 ≠ r2 ∧ r0 ≠ r1 ∧ r0 ≠ r2 ∧ r1 ≠ r2) :
    ∀ a j a' j', 10 ≤ a → a < 15 → j < i + 1 → 10 ≤ a' → a' < 15 → j' < i + 1 → q_gx g i a0 v0 r0 r1 r2 a j = q_gx g i a0 v0 r0 r1 r2 a' j' → a = a' ∧ j = j' := by
  intro a j a' j' h1 h2 h3 h4 h5 h6 he
  have e := q_gx_n (g := g) (i := i) (a0 := a0) (v0 := v0) (r0 := r0) (r1 := r1) (r2 := r2)
  have hnew : ∀ b, 10 ≤ b → b < 15 → mid ≤ q_gx g i a0 v0 r0 r1 r2 b i := by
    intro b hb1 hb2
    rcases (show b = 10 ∨ b = 11 ∨ b = 12 ∨ b = 13 ∨ b = 14 by omega) with h | h | h | h | h <;> subst h
    · rw [e.1]; omega
    · rw [e.2.1]; omega
    · rw [e.2.2.1]; omega
    · rw [e.2.2.2.1]; omega
    · rw [e.2.2.2.2]; omega
  by_cases hji : j = i
  · by_cases hji' : j' = i
    · subst hji; subst hji'
      refine ⟨?_, rfl⟩
      rcases (show a = 10 ∨ a = 11 ∨ a = 12 ∨ a = 13 ∨ a = 14 by omega) with h | h | h | h | h <;> subst h <;> rcases (show a' = 10 ∨ a' = 11 ∨ a' = 12 ∨ a' = 13 ∨ a' = 14 by omega) with h | h | h | h | h <;> subst h <;> simp only [e.1, e.2.1, e.2.2.1, e.2.2.2.1, e.2.2.2.2] at he <;> omega
    · subst hji
      rw [q_gx_o hji'] at he
      have := hnew a h1 h2
      have := hg a' j' h4 h5 (by omega)
      omega
  · rw [q_gx_o hji] at he
    by_cases hji' : j' = i
    · subst hji'
      have := hnew a' h4 h5
      have := hg a j h1 h2 (by omega)
      omega
    · rw [q_gx_o hji'] at he
      exact hj a j a' j' h1 h2 (by omega) h4 h5 (by omega) he
/-- where the class's cells lie, out of the fixed ones and the nodes' -/
def q_adr (f : Nat → Nat) (g : Nat → Nat → Nat) : Nat → Nat → Nat := fun a b => if a < 10 then f a else g a b
theorem q_adr_L {n lo : Nat} {f : Nat → Nat} {g : Nat → Nat → Nat} (hf : ∀ a b, a < 10 → b < 10 → f a = f b → a = b) (hlo : ∀ a, a < 10 → f a ≤ lo) (hg : ∀ a j, 10 ≤ a → a < 15 → j < n → lo < g a j) (hj : ∀ a j a' j', 10 ≤ a → a < 15 → j < n → 10 ≤ a' → a' < 15 → j' < n → g a j = g a' j' → a = a' ∧ j = j') : qL n (q_adr f g) := by
  intro a b a' b' h h' he
  unfold q_adr at he
  rcases h with ⟨h1, h2⟩ | ⟨h1, h2, h3⟩ <;> rcases h' with ⟨h4, h5⟩ | ⟨h4, h5, h6⟩
  · rw [if_pos h1, if_pos h4] at he
    exact ⟨hf a a' h1 h4 he, by omega⟩
  · rw [if_pos h1, if_neg (by omega)] at he
    have := hlo a h1
    have := hg a' b' h4 h5 h6
    omega
  · rw [if_neg (by omega), if_pos h4] at he
    have := hlo a' h4
    have := hg a b h1 h2 h3
    omega
  · rw [if_neg (by omega), if_neg (by omega)] at he
    exact hj a b a' b' h1 h2 h3 h4 h5 h6 he
theorem q_atq {dd : va_G} {cA : ClassId} {a n : Nat} {f g : Nat → Option Nat} {H : Heap} (h : ∀ j, j < n → f j = g j) (ha : va_at dd vwCl (a, .inl (cA, n, q_refs f)) H) : va_at dd vwCl (a, .inl (cA, n, q_refs g)) H := by
  have ha : H[a]? = some (vp_cell cA (n, q_refs f)) := ha
  show H[a]? = some (vp_cell cA (n, q_refs g))
  rw [ha]
  congr 1
  rw [vp_cell_q, vp_cell_q]
  unfold arrV
  congr 1
  congr 1
  funext j
  show va_rf (f j.val) = va_rf (g j.val)
  rw [h j.val j.isLt]
set_option maxHeartbeats 4000000 in
set_option maxRecDepth 100000 in
/-- X4_init -/
theorem c_X4_init (l : Launch) (dd : va_G) (ga : Nat → ClassId) (h0 sz : Nat) (x : Int32) : Met l yX4_init wsX4_init ({ frames := 3, cells := 89, slots := 7157, locals := 63 }) (qPc2 dd ga [.ref h0, .int x] (fun H => H.size = sz ∧ va_at dd vwCl (h0, .inr (4, [.int 0, .null, .null, .null, .null, .null, .int 0])) H)) (qQa (fun H => ∃ ad : Nat → Nat → Nat, qL (q_kk x * q_kk x) ad ∧ ad 0 0 = h0 ∧ (∀ a b : Nat, qd (q_kk x * q_kk x) a b → ¬ (a = 0 ∧ b = 0) → sz ≤ ad a b) ∧ qC dd ga (q_kk x * q_kk x) (q_kk x) ad q_init H) (fun q => q = h0 ∨ sz ≤ q)) (89) (7157) (fun q => q = h0 ∨ sz ≤ q) := by
  refine Met.ofW (cc := cX4_init) (maxL := 4) (ret := none) (by decide) rfl ?_
  intro p e s m args below meth c s₁ B hml hv
  obtain ⟨rfl, ⟨hsz, hP⟩, hK, hAO1, hAO2⟩ := hv
  have hx := B.exec
  have hb := B.bytes
  have hr := B.returns
  have hts := atoms_spec (ws := wsX4_init) B.pre
  have hown : s.vm.findClass RX4 = some m.cls := findClass_of_methodNamed B.named
  have hlocks := B.notSynchronized
  have hin9 : meth.name = "<init>" := (name_of_methodNamed B.named B.method).1
  have hS : va_S (fun q => q = h0 ∨ sz ≤ q) s.heap s.heap [] := va_S.rf
  have hl := lv_entry ([.ref h0, .int x]) (n := 4) (Nat.le_of_ble_eq_true rfl)
  rw [lg_entry_eq]
  generalize (lg_sl ([.ref h0, .int x]) ++ List.replicate (4 - (lg_sl ([.ref h0, .int x])).length) Slot.unset).toArray = ls at hl ⊢
  have hin0 : ∀ w ∈ wsX00, w ∈ wsX4_init := by decide +kernel
  have hin2 : ∀ w ∈ wsX20, w ∈ wsX4_init := by decide +kernel
  have hin3 : ∀ w ∈ wsX30, w ∈ wsX4_init := by decide +kernel
  have hin4 : ∀ w ∈ wsX40, w ∈ wsX4_init := by decide +kernel
  have hsq := q_kk_sq x
  have hkm := q_kk_mm x
  generalize hkx : q_kk x = k at *
  have hn9 : k * k = k * k := rfl
  generalize hkn : k * k = n at *
  have hn1 := hsq.n.1
  have hn16 := hsq.n.2
  have hn2 := q_n2 hn16
  have hk1 := hsq.2.1
  have hk4 := hsq.2.2
  have h0sz : h0 < sz := by rw [← hsz]; exact qa_lt hP
  have hloop : ∀ (q1 q2 q3 q4 q5 w1 w2 w3 w4 : Nat), (sz ≤ q1 ∧ q1 < q2 ∧ q2 < q3 ∧ q3 < q4 ∧ q4 < q5 ∧ q5 < w1 ∧ w1 < w2 ∧ w2 < w3 ∧ w3 < w4) → ∀ (c9 i9 : Nat) (g : Nat → Nat → Nat) (F1 : Nat → Int32) (f3 f4 : Nat → Option Nat) (H : Heap) (locs : List Loc) (ls : Array Slot), i9 + c9 = n → w4 < H.size → (∀ a j, 10 ≤ a → a < 15 → j < i9 → w4 < g a j ∧ g a j < H.size) → (∀ a j a' j', 10 ≤ a → a < 15 → j < i9 → 10 ≤ a' → a' < 15 → j' < i9 → g a j = g a' j' → a = a' ∧ j = j') → (∀ j, j < i9 → F1 j = q_quo k j n ∧ f3 j = some (g 10 j) ∧ f4 j = some (g 11 j)) → va_at dd vwCl (h0, .inr (4, [.int (nI n), .ref q1, .ref q2, .ref q3, .ref q4, .ref q5, .int 0])) H → va_at dd vwCl (q1, .inl (ga 0, n, .inl F1)) H → va_at dd vwCl (q2, .inl (ga 0, n, .inl (fun _ => 0))) H → va_at dd vwCl (q3, .inl (ga 2, n, q_refs f3)) H → va_at dd vwCl (q4, .inl (ga 3, n, q_refs f4)) H → qWir dd ga n q5 w1 w2 w3 w4 (fun _ _ => []) H → qBk dd ga (2 * k - 1) i9 g H → va_S (fun q => q = h0 ∨ sz ≤ q) s.heap H locs → lv_has ls 4 [(3, .int (nI i9)), (2, .int (nI k)), (0, .ref h0)] → W p l e (headSpec wsX4_init ({ frames := 3, cells := 89, slots := 7157, locals := 63 })).room s m (([.ref h0, .int x] : List Value).toArray) below meth c H locs (9 + 5 * i9) (6741 + 26 * i9) (MQ below (qQa (fun H => ∃ ad : Nat → Nat → Nat, qL n ad ∧ ad 0 0 = h0 ∧ (∀ a b : Nat, qd n a b → ¬ (a = 0 ∧ b = 0) → sz ≤ ad a b) ∧ qC dd ga n k ad q_init H) (fun q => q = h0 ∨ sz ≤ q)) (([.ref h0, .int x] : List Value).toArray) s 89 7157 (fun q => q = h0 ∨ sz ≤ q)) (F0 m 80 ls []) := by
    intro q1 q2 q3 q4 q5 w1 w2 w3 w4 hord c9
    induction c9 with
    | zero =>
      intro i9 g F1 f3 f4 H locs ls hc hH hg hj hF hP h_q1 h_q2 h_q3 h_q4 hWi hB hS hl
      have hi9 : i9 = n := by omega
      subst hi9
      refine lv_iload_n hx hb dX4_init_80 rfl (lv_at hl 0 rfl) ?_
      refine lv_aload_n hx hb dX4_init_81 rfl (lv_at hl 2 rfl) ?_
      refine qr_get (ci := 4) (C := RX4) (T := TX4) (N := 7) hx hb hts hin4 hown hK hP rfl 0 (by decide) (hts (.fieldLink RX4 18 "QuorumLock" "nodes" "I") (by decide +kernel)) rfl dX4_init_82 ?_
      refine lv_icmp_ge (tgt := 136) hx hb dX4_init_85 (by decide) (fun c_85 => ?_) (fun c_85 => absurd (nI_le (Nat.le_refl i9) (by omega)) c_85)
      refine lv_aload_n hx hb dX4_init_136 rfl (lv_at hl 2 rfl) ?_
      obtain ⟨ad, had⟩ : ∃ ad : Nat → Nat → Nat, ad = (q_adr (fun a => match a with | 0 => h0 | 1 => q1 | 2 => q2 | 3 => q3 | 4 => q4 | 5 => q5 | 6 => w1 | 7 => w2 | 8 => w3 | _ => w4) g) := ⟨_, rfl⟩
      have a0 : ad 0 0 = h0 := by rw [had]; rfl
      have a1 : ad 1 0 = q1 := by rw [had]; rfl
      have a2 : ad 2 0 = q2 := by rw [had]; rfl
      have a3 : ad 3 0 = q3 := by rw [had]; rfl
      have a4 : ad 4 0 = q4 := by rw [had]; rfl
      have a5 : ad 5 0 = q5 := by rw [had]; rfl
      have a6 : ad 6 0 = w1 := by rw [had]; rfl
      have a7 : ad 7 0 = w2 := by rw [had]; rfl
      have a8 : ad 8 0 = w3 := by rw [had]; rfl
      have a9 : ad 9 0 = w4 := by rw [had]; rfl
      have ag : ∀ a j, 10 ≤ a → ad a j = g a j := fun a j h => by rw [had]; unfold q_adr; rw [if_neg (by omega)]
      have hL : qL i9 ad := by
        rw [had]
        refine q_adr_L (lo := w4) (fun a b h1 h2 he => ?_) (fun a h1 => ?_) (fun a j h1 h2 h3 => (hg a j h1 h2 h3).1) hj
        · rcases (show a = 0 ∨ a = 1 ∨ a = 2 ∨ a = 3 ∨ a = 4 ∨ a = 5 ∨ a = 6 ∨ a = 7 ∨ a = 8 ∨ a = 9 by omega) with h | h | h | h | h | h | h | h | h | h <;> subst h <;> rcases (show b = 0 ∨ b = 1 ∨ b = 2 ∨ b = 3 ∨ b = 4 ∨ b = 5 ∨ b = 6 ∨ b = 7 ∨ b = 8 ∨ b = 9 by omega) with h | h | h | h | h | h | h | h | h | h <;> subst h <;> simp only at he <;> omega
        · rcases (show a = 0 ∨ a = 1 ∨ a = 2 ∨ a = 3 ∨ a = 4 ∨ a = 5 ∨ a = 6 ∨ a = 7 ∨ a = 8 ∨ a = 9 by omega) with h | h | h | h | h | h | h | h | h | h <;> subst h <;> simp only <;> omega
      have hge : ∀ a b : Nat, qd i9 a b → ¬ (a = 0 ∧ b = 0) → sz ≤ ad a b := by
        intro a b h1 h2
        rcases h1 with ⟨h3, h4⟩ | ⟨h3, h4, h5⟩
        · subst h4
          rcases (show a = 1 ∨ a = 2 ∨ a = 3 ∨ a = 4 ∨ a = 5 ∨ a = 6 ∨ a = 7 ∨ a = 8 ∨ a = 9 by omega) with h | h | h | h | h | h | h | h | h <;> subst h
          · rw [a1]; omega
          · rw [a2]; omega
          · rw [a3]; omega
          · rw [a4]; omega
          · rw [a5]; omega
          · rw [a6]; omega
          · rw [a7]; omega
          · rw [a8]; omega
          · rw [a9]; omega
        · rw [ag a b h3]; have := (hg a b h3 h4 h5).1; omega
      have hC0 : qC dd ga i9 k ad (fun _ _ => 0, fun _ => some (0, 0), fun _ => [], fun _ _ => [], 0) H := by
        refine ⟨by rw [a0, a1, a2, a3, a4, a5]; exact hP, by rw [a1]; exact q_ati (fun j hj2 => (hF j hj2).1) h_q1, by rw [a2]; exact h_q2, ?_, ?_, by rw [a5, a6, a7, a8, a9]; exact hWi, fun j hj2 => by rw [ag 10 j (by decide)]; exact hB.1 j hj2, fun j hj2 => by rw [ag 11 j (by decide), ag 12 j (by decide)]; exact hB.2.1 j hj2, fun j hj2 => by rw [ag 12 j (by decide), ag 13 j (by decide), ag 14 j (by decide)]; exact hB.2.2 j hj2⟩
        · rw [a3]; exact q_atq (fun j hj2 => by rw [ag 10 j (by decide)]; exact (hF j hj2).2.1) h_q3
        · rw [a4]; exact q_atq (fun j hj2 => by rw [ag 11 j (by decide)]; exact (hF j hj2).2.2) h_q4
      refine W.eq (g2 := F0 m 137 ls [.ref (ad 0 0)]) (by rw [a0]) ?_
      refine qcall_v (va_runV (As := []) (rest := []) ⟨hx, hb, hml, hown, hts⟩ (c_X4_init_ l dd ga i9 k ad (fun _ _ => 0, fun _ => some (0, 0), fun _ => [], fun _ _ => [], 0) hsq hL) (cwV 0 hts gX4_init_X4_init_ rfl rfl rfl (by decide +kernel) ⟨Nat.le_of_ble_eq_true rfl, Nat.le_of_ble_eq_true rfl⟩) (qpreV hK hC0 hC0.self rfl) rfl rfl hl.1 rfl (lv_room (Nat.le_of_ble_eq_true rfl)) dX4_init_137 ⟨by show _ ≤ 89; omega, by show _ ≤ 7157; omega⟩) hS (fun z h => by obtain ⟨a, b, hd, e⟩ := h; by_cases hz : a = 0 ∧ b = 0; (left; rw [e, hz.1, hz.2, a0]); right; rw [e]; exact hge a b hd hz) (fun H locs hp9 hz9 ho9 hS => ?_)
      refine W.widen (k := 89) (n := 7157) (by omega) (by omega) ?_
      exact q_aret hx hb hr hlocks hS ⟨ad, hL, a0, hge, hp9⟩ dX4_init_140
    | succ c9 ih =>
      intro i9 g F1 f3 f4 H locs ls hc hH hg hj hF hP h_q1 h_q2 h_q3 h_q4 hWi hB hS hl
      refine lv_iload_n hx hb dX4_init_80 rfl (lv_at hl 0 rfl) ?_
      refine lv_aload_n hx hb dX4_init_81 rfl (lv_at hl 2 rfl) ?_
      refine qr_get (ci := 4) (C := RX4) (T := TX4) (N := 7) hx hb hts hin4 hown hK hP rfl 0 (by decide) (hts (.fieldLink RX4 18 "QuorumLock" "nodes" "I") (by decide +kernel)) rfl dX4_init_82 ?_
      refine lv_icmp_ge (tgt := 136) hx hb dX4_init_85 (by decide) (fun c_85 => absurd c_85 (nI_ge (by omega) (by omega))) (fun c_85 => ?_)
      refine lv_aload_n hx hb dX4_init_88 rfl (lv_at hl 2 rfl) ?_
      refine qr_get (ci := 4) (C := RX4) (T := TX4) (N := 7) hx hb hts hin4 hown hK hP rfl 1 (by decide) (hts (.fieldLink RX4 22 "QuorumLock" "quorums" "[I") (by decide +kernel)) rfl dX4_init_89 ?_
      refine lv_iload_n hx hb dX4_init_92 rfl (lv_at hl 0 rfl) ?_
      refine lv_iload_n hx hb dX4_init_93 rfl (lv_at hl 0 rfl) ?_
      refine lv_iload_n hx hb dX4_init_94 rfl (lv_at hl 1 rfl) ?_
      refine qcall_i (va_runS (As := [.int (nI i9), .int (nI k)]) (rest := [.int (nI i9), .ref q1]) ⟨hx, hb, hml, hown, hts⟩ (c_X4_quorumOf l dd ga i9 k hk1 hk4 (by omega)) (va_cwS 2 hts gX4_init_X4_quorumOf rfl rfl rfl (by decide +kernel) ⟨Nat.le_of_ble_eq_true rfl, Nat.le_of_ble_eq_true rfl⟩) (qpreS hK trivial) rfl rfl hl.1 rfl (lv_room (Nat.le_of_ble_eq_true rfl)) dX4_init_95 ⟨by show _ ≤ 89; omega, by show _ ≤ 7157; omega⟩) hS (fun z h => h.elim) (fun v95 H locs hp9 hz9 ho9 hS => ?_)
      rw [hkn] at hp9
      subst hp9
      have hP := qa_kept hP (ho9 _ (fun h => h))
      have h_q1 := qa_kept h_q1 (ho9 _ (fun h => h))
      have h_q2 := qa_kept h_q2 (ho9 _ (fun h => h))
      have h_q3 := qa_kept h_q3 (ho9 _ (fun h => h))
      have h_q4 := qa_kept h_q4 (ho9 _ (fun h => h))
      have hWi := hWi.kept (ho9 _ (fun h => h)) (ho9 _ (fun h => h)) (ho9 _ (fun h => h)) (ho9 _ (fun h => h)) (ho9 _ (fun h => h))
      have hB := hB.kept hg (fun z z1 z2 => ho9 z (fun h => h))
      have hH : w4 < H.size := by omega
      have hg : ∀ a j, 10 ≤ a → a < 15 → j < i9 → w4 < g a j ∧ g a j < H.size := fun a j g1 g2 g3 => ⟨(hg a j g1 g2 g3).1, by have := (hg a j g1 g2 g3).2; omega⟩
      refine qn_iast hx hb hK h_q1 hS (Or.inr (by omega)) i9 (by omega) (by omega) rfl dX4_init_98 (fun H locs hz9 ho9 hat9 hS => ?_)
      have hP := qa_kept hP (ho9 _ (by omega))
      have h_q2 := qa_kept h_q2 (ho9 _ (by omega))
      have h_q3 := qa_kept h_q3 (ho9 _ (by omega))
      have h_q4 := qa_kept h_q4 (ho9 _ (by omega))
      have hWi := hWi.kept (ho9 _ (by omega)) (ho9 _ (by omega)) (ho9 _ (by omega)) (ho9 _ (by omega)) (ho9 _ (by omega))
      have hB := hB.kept hg (fun z z1 z2 => ho9 z (by omega))
      have hH : w4 < H.size := by omega
      have hg : ∀ a j, 10 ≤ a → a < 15 → j < i9 → w4 < g a j ∧ g a j < H.size := fun a j g1 g2 g3 => ⟨(hg a j g1 g2 g3).1, by have := (hg a j g1 g2 g3).2; omega⟩
      have h_q1 := hat9
      refine lv_aload_n hx hb dX4_init_99 rfl (lv_at hl 2 rfl) ?_
      refine qr_get (ci := 4) (C := RX4) (T := TX4) (N := 7) hx hb hts hin4 hown hK hP rfl 3 (by decide) (hts (.fieldLink RX4 31 "QuorumLock" "askers" "[LQuorumLock$Asker;") (by decide +kernel)) rfl dX4_init_100 ?_
      refine lv_iload_n hx hb dX4_init_103 rfl (lv_at hl 0 rfl) ?_
      refine qn_new (ci := 0) (fs := [.int 0, .int 0, .int 0, .int 0, .int 0]) (C := RX0) (T := TX0) (N := 5) hx hb hts hin0 tyX0 tyX0_ok hown (hts (.classLink RX4 29 RX0) (by decide +kernel)) (hts (.instantiable RX0 5) (by decide +kernel)) (hts (.initialized RX0) (by decide +kernel)) hK hS rfl (fun j hj => by rcases (show j = 0 ∨ j = 1 ∨ j = 2 ∨ j = 3 ∨ j = 4 by omega) with rfl | rfl | rfl | rfl | rfl <;> rfl) (by show _ ≤ 89; omega) (by show _ ≤ 7157; omega) dX4_init_104 (fun qa H hq9 hz9 ho9 hat9 hS => ?_)
      have b_qa : w4 < qa := by omega
      have gb_qa : ∀ a j, 10 ≤ a → a < 15 → j < i9 → g a j < qa := fun a j g1 g2 g3 => by have := (hg a j g1 g2 g3).2; omega
      have hP := qa_kept hP (ho9 _ (by omega))
      have h_q1 := qa_kept h_q1 (ho9 _ (by omega))
      have h_q2 := qa_kept h_q2 (ho9 _ (by omega))
      have h_q3 := qa_kept h_q3 (ho9 _ (by omega))
      have h_q4 := qa_kept h_q4 (ho9 _ (by omega))
      have hWi := hWi.kept (ho9 _ (by omega)) (ho9 _ (by omega)) (ho9 _ (by omega)) (ho9 _ (by omega)) (ho9 _ (by omega))
      have hB := hB.kept hg (fun z z1 z2 => ho9 z (by omega))
      have hH : w4 < H.size := by omega
      have hg : ∀ a j, 10 ≤ a → a < 15 → j < i9 → w4 < g a j ∧ g a j < H.size := fun a j g1 g2 g3 => ⟨(hg a j g1 g2 g3).1, by have := (hg a j g1 g2 g3).2; omega⟩
      have h_qa := hat9
      have t_qa : qa < H.size := by omega
      refine lv_dup hx hb dX4_init_107 rfl ?_
      refine qcall_v (va_runIN (As := []) (rest := [.ref qa, .int (nI i9), .ref q3]) (host := "QuorumLock") ⟨hx, hb, hml, hown, hts⟩ (c_X0_init l dd ga qa) ⟨va_cnB 0 hts gX4_init_X0_init_n53 rfl rfl rfl hK.2.2.2 (hts (.initialized RX0) (by decide +kernel)) (by decide +kernel) ⟨Nat.le_of_ble_eq_true rfl, Nat.le_of_ble_eq_true rfl⟩, rfl, hts (.instanceMethod yX0_init) (by decide +kernel)⟩ (qpreS hK h_qa) rfl rfl hl.1 rfl (lv_room (Nat.le_of_ble_eq_true rfl)) dX4_init_108 ⟨by show _ ≤ 89; omega, by show _ ≤ 7157; omega⟩) hS (fun z h => h.elim) (fun H locs hp9 hz9 ho9 hS => ?_)
      have hP := qa_kept hP (ho9 _ (fun h => h))
      have h_q1 := qa_kept h_q1 (ho9 _ (fun h => h))
      have h_q2 := qa_kept h_q2 (ho9 _ (fun h => h))
      have h_q3 := qa_kept h_q3 (ho9 _ (fun h => h))
      have h_q4 := qa_kept h_q4 (ho9 _ (fun h => h))
      have hWi := hWi.kept (ho9 _ (fun h => h)) (ho9 _ (fun h => h)) (ho9 _ (fun h => h)) (ho9 _ (fun h => h)) (ho9 _ (fun h => h))
      have hB := hB.kept hg (fun z z1 z2 => ho9 z (fun h => h))
      have hH : w4 < H.size := by omega
      have hg : ∀ a j, 10 ≤ a → a < 15 → j < i9 → w4 < g a j ∧ g a j < H.size := fun a j g1 g2 g3 => ⟨(hg a j g1 g2 g3).1, by have := (hg a j g1 g2 g3).2; omega⟩
      have h_qa := hp9
      have t_qa : qa < H.size := by omega
      refine qn_astq hx hb hK 2 0 h_q3 rfl h_qa rfl hS (Or.inr (by omega)) i9 (by omega) (by omega) rfl dX4_init_111 (fun H locs hz9 ho9 hat9 hS => ?_)
      have hP := qa_kept hP (ho9 _ (by omega))
      have h_q1 := qa_kept h_q1 (ho9 _ (by omega))
      have h_q2 := qa_kept h_q2 (ho9 _ (by omega))
      have h_q4 := qa_kept h_q4 (ho9 _ (by omega))
      have h_qa := qa_kept h_qa (ho9 _ (by omega))
      have hWi := hWi.kept (ho9 _ (by omega)) (ho9 _ (by omega)) (ho9 _ (by omega)) (ho9 _ (by omega)) (ho9 _ (by omega))
      have hB := hB.kept hg (fun z z1 z2 => ho9 z (by omega))
      have hH : w4 < H.size := by omega
      have hg : ∀ a j, 10 ≤ a → a < 15 → j < i9 → w4 < g a j ∧ g a j < H.size := fun a j g1 g2 g3 => ⟨(hg a j g1 g2 g3).1, by have := (hg a j g1 g2 g3).2; omega⟩
      have h_q3 := hat9
      have t_qa : qa < H.size := by omega
      refine lv_aload_n hx hb dX4_init_112 rfl (lv_at hl 2 rfl) ?_
      refine qr_get (ci := 4) (C := RX4) (T := TX4) (N := 7) hx hb hts hin4 hown hK hP rfl 4 (by decide) (hts (.fieldLink RX4 37 "QuorumLock" "voters" "[LQuorumLock$Voter;") (by decide +kernel)) rfl dX4_init_113 ?_
      refine lv_iload_n hx hb dX4_init_116 rfl (lv_at hl 0 rfl) ?_
      refine qn_new (ci := 2) (fs := [.null, .int 0, .int 0, .int 0]) (C := RX2) (T := TX2) (N := 4) hx hb hts hin2 tyX2 tyX2_ok hown (hts (.classLink RX4 35 RX2) (by decide +kernel)) (hts (.instantiable RX2 4) (by decide +kernel)) (hts (.initialized RX2) (by decide +kernel)) hK hS rfl (fun j hj => by rcases (show j = 0 ∨ j = 1 ∨ j = 2 ∨ j = 3 by omega) with rfl | rfl | rfl | rfl <;> rfl) (by show _ ≤ 89; omega) (by show _ ≤ 7157; omega) dX4_init_117 (fun qv H hq9 hz9 ho9 hat9 hS => ?_)
      have b_qv : w4 < qv := by omega
      have o_qa_qv : qa < qv := by rw [hq9]; exact qa_lt h_qa
      have gb_qv : ∀ a j, 10 ≤ a → a < 15 → j < i9 → g a j < qv := fun a j g1 g2 g3 => by have := (hg a j g1 g2 g3).2; omega
      have hP := qa_kept hP (ho9 _ (by omega))
      have h_q1 := qa_kept h_q1 (ho9 _ (by omega))
      have h_q2 := qa_kept h_q2 (ho9 _ (by omega))
      have h_q3 := qa_kept h_q3 (ho9 _ (by omega))
      have h_q4 := qa_kept h_q4 (ho9 _ (by omega))
      have h_qa := qa_kept h_qa (ho9 _ (by omega))
      have hWi := hWi.kept (ho9 _ (by omega)) (ho9 _ (by omega)) (ho9 _ (by omega)) (ho9 _ (by omega)) (ho9 _ (by omega))
      have hB := hB.kept hg (fun z z1 z2 => ho9 z (by omega))
      have hH : w4 < H.size := by omega
      have hg : ∀ a j, 10 ≤ a → a < 15 → j < i9 → w4 < g a j ∧ g a j < H.size := fun a j g1 g2 g3 => ⟨(hg a j g1 g2 g3).1, by have := (hg a j g1 g2 g3).2; omega⟩
      have h_qv := hat9
      have t_qv : qv < H.size := by omega
      refine lv_dup hx hb dX4_init_120 rfl ?_
      refine lv_iconst (v := nI 2) hx hb dX4_init_121 (by decide) ?_
      refine lv_iload_n hx hb dX4_init_122 rfl (lv_at hl 1 rfl) ?_
      refine lv_imul hx hb dX4_init_123 ?_
      refine q_ti (y := nI (2 * k)) (pk_mul _ _) ?_
      refine lv_iconst (v := nI 1) hx hb dX4_init_124 (by decide) ?_
      refine lv_isub hx hb dX4_init_125 ?_
      refine q_ti (y := nI (2 * k - 1)) (pk_sub (by omega)) ?_
      refine qcall_a (va_runI (As := [.int (nI (2 * k - 1))]) (rest := [.ref qv, .int (nI i9), .ref q4]) ⟨hx, hb, hml, hown, hts⟩ (c_X2_init l dd ga qv H.size (2 * k - 1) (by omega)) (cwI 1 hts gX4_init_X2_init rfl rfl rfl (hts (.initialized RX2) (by decide +kernel)) (hts (.methodLink RX4 54 yX2_init) (by decide +kernel)) (hts (.instanceMethod yX2_init) (by decide +kernel)) rfl (by decide +kernel) ⟨Nat.le_of_ble_eq_true rfl, Nat.le_of_ble_eq_true rfl⟩) (qpreS hK (⟨rfl, h_qv⟩)) rfl rfl hl.1 rfl (lv_room (Nat.le_of_ble_eq_true rfl)) dX4_init_126 ⟨by show _ ≤ 89; omega, by show _ ≤ 7157; omega⟩) hS (fun z h => Or.inr (h.elim (fun h => by omega) (fun h => by omega))) (fun H locs hp9 hz9 ho9 hS => ?_)
      obtain ⟨r0, r1, r2, lr0, lr1, lr2, n01, n02, n12, h_qv, hRo⟩ := hp9
      have hP := qa_kept hP (ho9 _ (by omega) (by omega))
      have h_q1 := qa_kept h_q1 (ho9 _ (by omega) (by omega))
      have h_q2 := qa_kept h_q2 (ho9 _ (by omega) (by omega))
      have h_q3 := qa_kept h_q3 (ho9 _ (by omega) (by omega))
      have h_q4 := qa_kept h_q4 (ho9 _ (by omega) (by omega))
      have h_qa := qa_kept h_qa (ho9 _ (by omega) (by omega))
      have hWi := hWi.kept (ho9 _ (by omega) (by omega)) (ho9 _ (by omega) (by omega)) (ho9 _ (by omega) (by omega)) (ho9 _ (by omega) (by omega)) (ho9 _ (by omega) (by omega))
      have hB := hB.kept (fun a j g1 g2 g3 => ⟨(hg a j g1 g2 g3).1, gb_qv a j g1 g2 g3⟩) (fun z z1 z2 => ho9 z (by omega) (by omega))
      have hH : w4 < H.size := by omega
      have hg : ∀ a j, 10 ≤ a → a < 15 → j < i9 → w4 < g a j ∧ g a j < H.size := fun a j g1 g2 g3 => ⟨(hg a j g1 g2 g3).1, by have := (hg a j g1 g2 g3).2; omega⟩
      have t_qa : qa < H.size := by omega
      have t_qv : qv < H.size := by omega
      refine qn_astq hx hb hK 3 2 h_q4 rfl h_qv rfl hS (Or.inr (by omega)) i9 (by omega) (by omega) rfl dX4_init_129 (fun H locs hz9 ho9 hat9 hS => ?_)
      have hP := qa_kept hP (ho9 _ (by omega))
      have h_q1 := qa_kept h_q1 (ho9 _ (by omega))
      have h_q2 := qa_kept h_q2 (ho9 _ (by omega))
      have h_q3 := qa_kept h_q3 (ho9 _ (by omega))
      have h_qa := qa_kept h_qa (ho9 _ (by omega))
      have h_qv := qa_kept h_qv (ho9 _ (by omega))
      have hWi := hWi.kept (ho9 _ (by omega)) (ho9 _ (by omega)) (ho9 _ (by omega)) (ho9 _ (by omega)) (ho9 _ (by omega))
      have hB := hB.kept hg (fun z z1 z2 => ho9 z (by omega))
      have hH : w4 < H.size := by omega
      have hg : ∀ a j, 10 ≤ a → a < 15 → j < i9 → w4 < g a j ∧ g a j < H.size := fun a j g1 g2 g3 => ⟨(hg a j g1 g2 g3).1, by have := (hg a j g1 g2 g3).2; omega⟩
      have h_q4 := hat9
      have hRo := hRo.kept (ho9 _ (by omega)) (ho9 _ (by omega)) (ho9 _ (by omega))
      refine lv_iinc (v := nI (i9 + 1)) (lv' := [(3, .int (nI (i9 + 1))), (2, .int (nI k)), (0, .ref h0)]) hx hb dX4_init_130 hl (k := 0) rfl (nI_1 _) (by decide) rfl (fun ls hl => ?_)
      refine lv_goto (tgt := 80) hx hb dX4_init_133 (by decide) ?_
      have hB := hB.add h_qa h_qv hRo
      refine W.widen (k := 9 + 5 * (i9 + 1)) (n := 6741 + 26 * (i9 + 1)) (by omega) (by omega) ?_
      refine ih (i9 + 1) (q_gx g i9 qa qv r0 r1 r2) (upd F1 i9 (q_quo k i9 n)) (va_up f3 i9 (some qa)) (va_up f4 i9 (some qv)) _ _ ls (by omega) hH (q_gx_in (mid := qa) (fun a j g1 g2 g3 => ⟨(hg a j g1 g2 g3).1, gb_qa a j g1 g2 g3⟩) (by omega) (by omega) (by omega) (by omega) (by omega) (by omega)) (q_gx_inj (mid := qa) hj gb_qa (by omega) (by omega)) (fun j hj2 => ?_) hP h_q1 h_q2 h_q3 h_q4 hWi hB hS (lv_sub hl [0, 1, 2] rfl)
      by_cases hji : j = i9
      · subst hji
        exact ⟨by simp [upd], by rw [va_up_self, q_gx_n.1], by rw [va_up_self, q_gx_n.2.1]⟩
      · have h9 := hF j (by omega)
        exact ⟨by simp [upd, hji, h9.1], by rw [va_up_ne _ _ hji, q_gx_o hji]; exact h9.2.1, by rw [va_up_ne _ _ hji, q_gx_o hji]; exact h9.2.2⟩
  refine lv_aload_n hx hb dX4_init_0 rfl (lv_at hl 0 rfl) ?_
  refine W.objInit hx hb hown (hts (.methodLink RX4 1 objectInit) (by decide +kernel)) (hts (.instanceMethod objectInit) (by decide +kernel)) (hts (.code objectInit ⟨#[0xb1]⟩ 1 none) (by decide +kernel)) rfl (by rw [hml]; exact hl.1) rfl dX4_init_1 (Nat.le_of_ble_eq_true rfl) (Nat.le_of_ble_eq_true rfl) ?_
  refine W.eq (g2 := F0 m 4 ls []) rfl ?_
  refine lv_iload_n hx hb dX4_init_4 rfl (lv_at hl 1 rfl) ?_
  refine lv_iconst (v := 1) hx hb dX4_init_5 (by decide) ?_
  refine va_mmax (x := x) (y := 1) hx hb (by rw [hml]; exact hl.1.symm) hown (hts (.methodLink RX4 7 Lib.Math.max.name) (by decide +kernel)) (hts (.static Lib.Math.max.name) (by decide +kernel)) (hts (.initialized "java/lang/Math") (by decide +kernel)) (hts (.code Lib.Math.max.name Lib.Math.max.code 2 (some .int)) (by decide +kernel)) (Nat.le_of_ble_eq_true rfl) (Nat.le_of_ble_eq_true rfl) (by show _ ≤ 89; omega) (by show _ ≤ 7157; omega) dX4_init_6 ?_
  refine lv_iconst (v := 4) hx hb dX4_init_9 (by decide) ?_
  refine va_mmin (x := if x < 1 then 1 else x) (y := 4) hx hb (by rw [hml]; exact hl.1.symm) hown (hts (.methodLink RX4 15 Lib.Math.min.name) (by decide +kernel)) (hts (.static Lib.Math.min.name) (by decide +kernel)) (hts (.initialized "java/lang/Math") (by decide +kernel)) (hts (.code Lib.Math.min.name Lib.Math.min.code 2 (some .int)) (by decide +kernel)) (Nat.le_of_ble_eq_true rfl) (Nat.le_of_ble_eq_true rfl) (by show _ ≤ 89; omega) (by show _ ≤ 7157; omega) dX4_init_10 ?_
  refine q_ti (y := nI k) (hkm) ?_
  refine lv_istore_n (lv' := [(2, .int (nI k)), (0, .ref h0), (1, .int x)]) hx hb dX4_init_13 rfl hl (by decide) rfl (fun ls hl => ?_)
  refine lv_aload_n hx hb dX4_init_14 rfl (lv_at hl 1 rfl) ?_
  refine lv_iload_n hx hb dX4_init_15 rfl (lv_at hl 0 rfl) ?_
  refine lv_iload_n hx hb dX4_init_16 rfl (lv_at hl 0 rfl) ?_
  refine lv_imul hx hb dX4_init_17 ?_
  refine q_ti (y := nI n) ((pk_mul _ _).trans (by rw [hkn])) ?_
  refine qn_putF (ci := 4) (C := RX4) (T := TX4) (N := 7) hx hb hts hin4 tyX4 tyX4_ok nmX4 hown hK hP hS (Or.inl rfl) rfl 0 (by decide) (hts (.fieldLink RX4 18 "QuorumLock" "nodes" "I") (by decide +kernel)) rfl hin9 rfl rfl rfl (Nat.le_of_ble_eq_true rfl) dX4_init_18 (fun H locs hz9 ho9 hat9 hS => ?_)
  have hP : va_at dd vwCl (h0, .inr (4, [.int (nI n), .null, .null, .null, .null, .null, .int 0])) H := hat9
  refine lv_aload_n hx hb dX4_init_21 rfl (lv_at hl 1 rfl) ?_
  refine lv_aload_n hx hb dX4_init_22 rfl (lv_at hl 1 rfl) ?_
  refine qr_get (ci := 4) (C := RX4) (T := TX4) (N := 7) hx hb hts hin4 hown hK hP rfl 0 (by decide) (hts (.fieldLink RX4 18 "QuorumLock" "nodes" "I") (by decide +kernel)) rfl dX4_init_23 ?_
  refine qn_newi hx hb (hts (.arrayClass .int) (by decide +kernel)) hK hS (n) (by omega) rfl (by show _ ≤ 89; omega) (by show _ ≤ 7157; omega) dX4_init_26 (fun q1 H hq9 hz9 ho9 hat9 hS => ?_)
  have o_q1 : h0 < q1 := by rw [hq9]; exact qa_lt hP
  have hP := qa_keptL hP ho9
  have h_q1 := hat9
  have l_q1 : sz ≤ q1 := by rw [hq9]; exact Nat.le_trans (Nat.le_of_eq hsz.symm) (Nat.le_of_lt_succ (Nat.lt_succ_of_le (by have := hS.1; omega)))
  refine qn_putF (ci := 4) (C := RX4) (T := TX4) (N := 7) hx hb hts hin4 tyX4 tyX4_ok nmX4 hown hK hP hS (Or.inl rfl) rfl 1 (by decide) (hts (.fieldLink RX4 22 "QuorumLock" "quorums" "[I") (by decide +kernel)) rfl hin9 rfl rfl rfl (Nat.le_of_ble_eq_true rfl) dX4_init_28 (fun H locs hz9 ho9 hat9 hS => ?_)
  have hP : va_at dd vwCl (h0, .inr (4, [.int (nI n), .ref q1, .null, .null, .null, .null, .int 0])) H := hat9
  have h_q1 := qa_kept h_q1 (ho9 _ (by omega))
  refine lv_aload_n hx hb dX4_init_31 rfl (lv_at hl 1 rfl) ?_
  refine lv_aload_n hx hb dX4_init_32 rfl (lv_at hl 1 rfl) ?_
  refine qr_get (ci := 4) (C := RX4) (T := TX4) (N := 7) hx hb hts hin4 hown hK hP rfl 0 (by decide) (hts (.fieldLink RX4 18 "QuorumLock" "nodes" "I") (by decide +kernel)) rfl dX4_init_33 ?_
  refine qn_newi hx hb (hts (.arrayClass .int) (by decide +kernel)) hK hS (n) (by omega) rfl (by show _ ≤ 89; omega) (by show _ ≤ 7157; omega) dX4_init_36 (fun q2 H hq9 hz9 ho9 hat9 hS => ?_)
  have o_q2 : q1 < q2 := by rw [hq9]; exact qa_lt h_q1
  have hP := qa_keptL hP ho9
  have h_q1 := qa_keptL h_q1 ho9
  have h_q2 := hat9
  have l_q2 : sz ≤ q2 := by rw [hq9]; exact Nat.le_trans (Nat.le_of_eq hsz.symm) (Nat.le_of_lt_succ (Nat.lt_succ_of_le (by have := hS.1; omega)))
  refine qn_putF (ci := 4) (C := RX4) (T := TX4) (N := 7) hx hb hts hin4 tyX4 tyX4_ok nmX4 hown hK hP hS (Or.inl rfl) rfl 2 (by decide) (hts (.fieldLink RX4 26 "QuorumLock" "clocks" "[I") (by decide +kernel)) rfl hin9 rfl rfl rfl (Nat.le_of_ble_eq_true rfl) dX4_init_38 (fun H locs hz9 ho9 hat9 hS => ?_)
  have hP : va_at dd vwCl (h0, .inr (4, [.int (nI n), .ref q1, .ref q2, .null, .null, .null, .int 0])) H := hat9
  have h_q1 := qa_kept h_q1 (ho9 _ (by omega))
  have h_q2 := qa_kept h_q2 (ho9 _ (by omega))
  refine lv_aload_n hx hb dX4_init_41 rfl (lv_at hl 1 rfl) ?_
  refine lv_aload_n hx hb dX4_init_42 rfl (lv_at hl 1 rfl) ?_
  refine qr_get (ci := 4) (C := RX4) (T := TX4) (N := 7) hx hb hts hin4 hown hK hP rfl 0 (by decide) (hts (.fieldLink RX4 18 "QuorumLock" "nodes" "I") (by decide +kernel)) rfl dX4_init_43 ?_
  refine qn_newq (C := "QuorumLock$Asker") hx hb hown (hts (.classLink RX4 29 RX0) (by decide +kernel)) hAO1 hK 2 rfl hS n (by omega) rfl (by show _ ≤ 89; omega) (by show _ ≤ 7157; omega) dX4_init_46 (fun q3 H hq9 hz9 ho9 hat9 hS => ?_)
  have o_q3 : q2 < q3 := by rw [hq9]; exact qa_lt h_q2
  have hP := qa_keptL hP ho9
  have h_q1 := qa_keptL h_q1 ho9
  have h_q2 := qa_keptL h_q2 ho9
  have h_q3 := hat9
  have l_q3 : sz ≤ q3 := by rw [hq9]; have := hS.1; omega
  refine qn_putF (ci := 4) (C := RX4) (T := TX4) (N := 7) hx hb hts hin4 tyX4 tyX4_ok nmX4 hown hK hP hS (Or.inl rfl) rfl 3 (by decide) (hts (.fieldLink RX4 31 "QuorumLock" "askers" "[LQuorumLock$Asker;") (by decide +kernel)) rfl hin9 rfl rfl rfl (Nat.le_of_ble_eq_true rfl) dX4_init_49 (fun H locs hz9 ho9 hat9 hS => ?_)
  have hP : va_at dd vwCl (h0, .inr (4, [.int (nI n), .ref q1, .ref q2, .ref q3, .null, .null, .int 0])) H := hat9
  have h_q1 := qa_kept h_q1 (ho9 _ (by omega))
  have h_q2 := qa_kept h_q2 (ho9 _ (by omega))
  have h_q3 := qa_kept h_q3 (ho9 _ (by omega))
  refine lv_aload_n hx hb dX4_init_52 rfl (lv_at hl 1 rfl) ?_
  refine lv_aload_n hx hb dX4_init_53 rfl (lv_at hl 1 rfl) ?_
  refine qr_get (ci := 4) (C := RX4) (T := TX4) (N := 7) hx hb hts hin4 hown hK hP rfl 0 (by decide) (hts (.fieldLink RX4 18 "QuorumLock" "nodes" "I") (by decide +kernel)) rfl dX4_init_54 ?_
  refine qn_newq (C := "QuorumLock$Voter") hx hb hown (hts (.classLink RX4 35 RX2) (by decide +kernel)) hAO2 hK 3 rfl hS n (by omega) rfl (by show _ ≤ 89; omega) (by show _ ≤ 7157; omega) dX4_init_57 (fun q4 H hq9 hz9 ho9 hat9 hS => ?_)
  have o_q4 : q3 < q4 := by rw [hq9]; exact qa_lt h_q3
  have hP := qa_keptL hP ho9
  have h_q1 := qa_keptL h_q1 ho9
  have h_q2 := qa_keptL h_q2 ho9
  have h_q3 := qa_keptL h_q3 ho9
  have h_q4 := hat9
  have l_q4 : sz ≤ q4 := by rw [hq9]; have := hS.1; omega
  refine qn_putF (ci := 4) (C := RX4) (T := TX4) (N := 7) hx hb hts hin4 tyX4 tyX4_ok nmX4 hown hK hP hS (Or.inl rfl) rfl 4 (by decide) (hts (.fieldLink RX4 37 "QuorumLock" "voters" "[LQuorumLock$Voter;") (by decide +kernel)) rfl hin9 rfl rfl rfl (Nat.le_of_ble_eq_true rfl) dX4_init_60 (fun H locs hz9 ho9 hat9 hS => ?_)
  have hP : va_at dd vwCl (h0, .inr (4, [.int (nI n), .ref q1, .ref q2, .ref q3, .ref q4, .null, .int 0])) H := hat9
  have h_q1 := qa_kept h_q1 (ho9 _ (by omega))
  have h_q2 := qa_kept h_q2 (ho9 _ (by omega))
  have h_q3 := qa_kept h_q3 (ho9 _ (by omega))
  have h_q4 := qa_kept h_q4 (ho9 _ (by omega))
  refine lv_aload_n hx hb dX4_init_63 rfl (lv_at hl 1 rfl) ?_
  refine qn_new (ci := 3) (fs := [.int 0, .null, .null, .null, .null]) (C := RX3) (T := TX3) (N := 5) hx hb hts hin3 tyX3 tyX3_ok hown (hts (.classLink RX4 41 RX3) (by decide +kernel)) (hts (.instantiable RX3 5) (by decide +kernel)) (hts (.initialized RX3) (by decide +kernel)) hK hS rfl (fun j hj => by rcases (show j = 0 ∨ j = 1 ∨ j = 2 ∨ j = 3 ∨ j = 4 by omega) with rfl | rfl | rfl | rfl | rfl <;> rfl) (by show _ ≤ 89; omega) (by show _ ≤ 7157; omega) dX4_init_64 (fun q5 H hq9 hz9 ho9 hat9 hS => ?_)
  have o_q5 : q4 < q5 := by rw [hq9]; exact qa_lt h_q4
  have hP := qa_keptL hP ho9
  have h_q1 := qa_keptL h_q1 ho9
  have h_q2 := qa_keptL h_q2 ho9
  have h_q3 := qa_keptL h_q3 ho9
  have h_q4 := qa_keptL h_q4 ho9
  have h_q5 := hat9
  have l_q5 : sz ≤ q5 := by rw [hq9]; have := hS.1; omega
  have hzn : H.size = q5 + 1 := by rw [hz9, hq9]
  refine lv_dup hx hb dX4_init_67 rfl ?_
  refine lv_aload_n hx hb dX4_init_68 rfl (lv_at hl 1 rfl) ?_
  refine qr_get (ci := 4) (C := RX4) (T := TX4) (N := 7) hx hb hts hin4 hown hK hP rfl 0 (by decide) (hts (.fieldLink RX4 18 "QuorumLock" "nodes" "I") (by decide +kernel)) rfl dX4_init_69 ?_
  refine qcall_a (va_runI (As := [.int (nI n)]) (rest := [.ref q5, .ref h0]) ⟨hx, hb, hml, hown, hts⟩ (c_X3_init l dd ga q5 H.size n hn16) (cwI 1 hts gX4_init_X3_init rfl rfl rfl (hts (.initialized RX3) (by decide +kernel)) (hts (.methodLink RX4 43 yX3_init) (by decide +kernel)) (hts (.instanceMethod yX3_init) (by decide +kernel)) rfl (by decide +kernel) ⟨Nat.le_of_ble_eq_true rfl, Nat.le_of_ble_eq_true rfl⟩) (qpreS hK (⟨rfl, h_q5⟩)) rfl rfl hl.1 rfl (lv_room (Nat.le_of_ble_eq_true rfl)) dX4_init_72 ⟨by show _ ≤ 89; omega, by show _ ≤ 7157; omega⟩) hS (fun z h => Or.inr (h.elim (fun h => by omega) (fun h => by omega))) (fun H locs hp9 hz9 ho9 hS => ?_)
  obtain ⟨w1, w2, w3, w4, hwo, hWi⟩ := hp9
  have hP := qa_kept hP (ho9 _ (qa_lt hP) (by omega))
  have h_q1 := qa_kept h_q1 (ho9 _ (qa_lt h_q1) (by omega))
  have h_q2 := qa_kept h_q2 (ho9 _ (qa_lt h_q2) (by omega))
  have h_q3 := qa_kept h_q3 (ho9 _ (qa_lt h_q3) (by omega))
  have h_q4 := qa_kept h_q4 (ho9 _ (qa_lt h_q4) (by omega))
  refine qn_putF (ci := 4) (C := RX4) (T := TX4) (N := 7) hx hb hts hin4 tyX4 tyX4_ok nmX4 hown hK hP hS (Or.inl rfl) rfl 5 (by decide) (hts (.fieldLink RX4 46 "QuorumLock" "wires" "LQuorumLock$Wires;") (by decide +kernel)) rfl hin9 rfl rfl rfl (Nat.le_of_ble_eq_true rfl) dX4_init_75 (fun H locs hz9 ho9 hat9 hS => ?_)
  have hP : va_at dd vwCl (h0, .inr (4, [.int (nI n), .ref q1, .ref q2, .ref q3, .ref q4, .ref q5, .int 0])) H := hat9
  have h_q1 := qa_kept h_q1 (ho9 _ (by omega))
  have h_q2 := qa_kept h_q2 (ho9 _ (by omega))
  have h_q3 := qa_kept h_q3 (ho9 _ (by omega))
  have h_q4 := qa_kept h_q4 (ho9 _ (by omega))
  have hWi := hWi.kept (ho9 _ (by omega)) (ho9 _ (by omega)) (ho9 _ (by omega)) (ho9 _ (by omega)) (ho9 _ (by omega))
  refine lv_iconst (v := nI 0) hx hb dX4_init_78 (by decide) ?_
  refine lv_istore_n (lv' := [(3, .int (nI 0)), (2, .int (nI k)), (0, .ref h0), (1, .int x)]) hx hb dX4_init_79 rfl hl (by decide) rfl (fun ls hl => ?_)
  refine W.widen (k := 9 + 5 * 0) (n := 6741 + 26 * 0) (by omega) (by omega) ?_
  exact hloop q1 q2 q3 q4 q5 w1 w2 w3 w4 (by omega) n 0 (fun _ _ => 0) _ _ _ _ _ ls (by omega) (by omega) (fun a j _ _ h => by omega) (fun a j a9 j9 _ _ h => by omega) (fun j h => by omega) hP h_q1 h_q2 h_q3 h_q4 hWi ⟨fun j h => by omega, fun j h => by omega, fun j h => by omega⟩ hS (lv_sub hl [0, 1, 2] rfl)
