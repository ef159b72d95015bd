/-! BASE: cells one by one; a write shows what it leaves as it was; calls of methods that make nothing -/
def qy_A : String := "QuorumLock$Asker"
def qy_V : String := "QuorumLock$Voter"
/-- the array classes: 0 int, 1 boolean, 2 askers, 3 voters -/
abbrev qT (ga : Nat → ClassId) : List (ClassId × FieldType) := [(ga 0, .int), (ga 1, .boolean), (ga 2, .object "QuorumLock$Asker"), (ga 3, .object "QuorumLock$Voter")]
/-- the nest's links that are no common words -/
def qN (U : State) : Prop := va_Nw (.methodLinkNest RX1 22 yX4_isBefore "QuorumLock") U ∧ va_Nw (.methodLinkNest RX2 44 yX4_isBefore "QuorumLock") U ∧ va_Nw (.methodLinkNest RX4 53 yX0_init "QuorumLock") U
def qK (dd : va_G) (ga : Nat → ClassId) (U : State) : Prop := va_K dd vwCl (qT ga) U ∧ qN U
theorem qK.warm {dd : va_G} {ga : Nat → ClassId} {s U : State} (hW : s.WarmedH U.vm) (h : qK dd ga s) : qK dd ga U := ⟨va_K.moved hW.alike h.1, va_Nw.warmM hW h.2.1, va_Nw.warmM hW h.2.2.1, va_Nw.warmM hW h.2.2.2⟩
theorem qK.calling {dd : va_G} {ga : Nat → ClassId} {U : State} {g : JFrame} {mk : MethodId} {a : Array Value} (h : qK dd ga U) : qK dd ga (U.calling g mk a) := ⟨va_K.moved (Vm.Alike.refl U.vm) h.1, va_Nw.same rfl rfl h.2.1, va_Nw.same rfl rfl h.2.2.1, va_Nw.same rfl rfl h.2.2.2⟩
/-- a contract's start -/
def qPc (dd : va_G) (ga : Nat → ClassId) (av : List Value) (P : Heap → Prop) : Array Value → State → Prop := va_Pc av (fun U => P U.heap ∧ qK dd ga U)
/-- a contract's end: an int, or nothing; what lies outside A is as it was, and nothing is new -/
def qQi (post : Int32 → Heap → Prop) (A : Nat → Prop) : Array Value → State → Outcome → State → Prop := fun _ st oc t => (∃ r : Int32, oc = .returned (some (.int r)) ∧ post r t.heap) ∧ t.heap.size = st.heap.size ∧ ∀ q : Nat, ¬ A q → t.heap[q]? = st.heap[q]?
def qQv (post : Heap → Prop) (A : Nat → Prop) : Array Value → State → Outcome → State → Prop := fun _ st oc t => (oc = .returned none ∧ post t.heap) ∧ t.heap.size = st.heap.size ∧ ∀ q : Nat, ¬ A q → t.heap[q]? = st.heap[q]?
/-- since H0: nothing is new, what lies outside A is as it was -/
def qS (A : Nat → Prop) (H0 H : Heap) (locs : List Loc) : Prop := H.size = H0.size ∧ (∀ q : Nat, ¬ A q → H[q]? = H0[q]?) ∧ ∀ l ∈ locs, A l.base
theorem qS.rf {A : Nat → Prop} {H0 : Heap} : qS A H0 H0 [] := ⟨rfl, fun _ _ => rfl, fun _ h => by cases h⟩
theorem qS.put {A : Nat → Prop} {H0 H H1 : Heap} {locs : List Loc} {a k : Nat} (h : qS A H0 H locs) (z : H1.size = H.size) (oq : ∀ q : Nat, q ≠ a → H1[q]? = H[q]?) (ha : A a) : qS A H0 H1 (locs ++ [⟨a, k⟩]) := by
  refine ⟨z.trans h.1, fun q h2 => ?_, fun q hq => ?_⟩
  · rw [oq q (fun e => h2 (by rw [e]; exact ha))]
    exact h.2.1 q h2
  · rcases List.mem_append.mp hq with h1 | h1
    · exact h.2.2 q h1
    · rw [List.mem_singleton.mp h1]
      exact ha
theorem qS.v {A : Nat → Prop} {H0 H : Heap} {locs : List Loc} (h : qS A H0 H locs) : va_S A H0 H locs := ⟨Nat.le_of_eq h.1.symm, fun q _ h2 => h.2.1 q h2, h.2.2⟩
theorem qS.call {A A1 : Nat → Prop} {H0 H H1 : Heap} {locs L : List Loc} (h : qS A H0 H locs) (z : H1.size = H.size) (oq : ∀ q : Nat, ¬ A1 q → H1[q]? = H[q]?) (hA : ∀ q, A1 q → A q) (hL : ∀ q ∈ L, A1 q.base) : qS A H0 H1 (locs ++ L) := by
  refine ⟨z.trans h.1, fun q h2 => ?_, fun q hq => ?_⟩
  · rw [oq q (fun e => h2 (hA q e))]
    exact h.2.1 q h2
  · rcases List.mem_append.mp hq with h1 | h1
    · exact h.2.2 q h1
    · exact hA _ (hL q h1)
theorem qfb {dd : va_G} {ga : Nat → ClassId} {av : List Value} {P : Heap → Prop} : FrameBlind (qPc dd ga av P) := fun _ _ _ _ q => ⟨q.1, q.2.1, q.2.2.calling⟩
section QR
variable {p : Program} {l : Launch} {e : Env} {R : Room} {s : State} {m : MethodId} {args : Array Value} {below : List Frame} {meth : Method} {c : Code} {H : Heap} {locs : List Loc} {cells slots : Nat} {Q : State → Prop}
variable {cc : ByteArray} {pc : Nat} {ls : Array Slot} {rest st0 : List Value} {dd : va_G} {ga : Nat → ClassId} {A : Nat → Prop} {a : Nat} {H0 : Heap}
theorem qr_one {e0 : va_E} (h : va_at dd vwCl (a, e0) H) : va_P dd vwCl [(a, e0)] H := fun k q hk => by
  match k, hk with
  | 0, hk => cases hk; exact h
  | k + 1, hk => simp at hk
theorem qpreV {C : String} {T : u_T} {N ci : Nat} {fs : List Value} {av : List Value} {P : Heap → Prop} {b : Nat} (hK : qK dd ga s) (hP : P H) (hr : va_at dd vwCl (b, .inr (ci, fs)) H) (hc : vwCl[ci]? = some (C, T, N)) : PreV s H C b (qPc dd ga (.ref b :: av) P) av :=
  ⟨qfb, va_recv hK.1 (qr_one hr) (ci := ci) (q0 := 0) hc rfl, fun U hU hW => ⟨rfl, by rw [hU]; exact hP, hK.warm hW⟩⟩
theorem qpreS {av : List Value} {P : Heap → Prop} (hK : qK dd ga s) (hP : P H) : PreS s H (qPc dd ga av P) av :=
  ⟨qfb, fun U hU hW => ⟨rfl, by rw [hU]; exact hP, hK.warm hW⟩⟩
theorem qcall_i {post : Int32 → Heap → Prop} {A1 : Nat → Prop} {av : Array Value} (hr : va_Run p l e R s m args below meth c H locs cells slots 0 0 (F0 m pc ls st0) rest (qQi post A1 av) A1) (hS : va_S A H0 H locs) (hA : ∀ q, A1 q → A q)
    (kk : ∀ (r : Int32) (H1 : Heap) (locs1 : List Loc), post r H1 → H1.size = H.size → (∀ q : Nat, ¬ A1 q → H1[q]? = H[q]?) → va_S A H0 H1 locs1 → W p l e R s m args below meth c H1 locs1 cells slots Q (F0 m (pc + 3) ls (.int r :: rest))) : W p l e R s m args below meth c H locs cells slots Q (F0 m pc ls st0) := by
  intro T hT X
  obtain ⟨v, st₀, t, T', L, h0, X', hL, e1, e2, ⟨⟨r, hv, hp⟩, hz, hk⟩, st⟩ := hr T hT X
  cases hv
  rw [h0] at hz hk
  obtain ⟨t2, a1, b1⟩ := kk r T'.heap (locs ++ L) (by rw [e1]; exact hp) (by rw [e1]; exact hz) (fun q h => by rw [e1]; exact hk q h)
    ⟨Nat.le_trans hS.1 (by rw [e1, hz]; exact Nat.le_refl _), fun q h1 h2 => by rw [e1, hk q (fun z => h2 (hA q z))]; exact hS.2.1 q h1 h2, fun q hq => by
      rcases List.mem_append.mp hq with h | h
      · exact hS.2.2 q h
      · exact hA _ (hL q h)⟩ T' rfl X'
  exact ⟨t2, st t2 a1, b1⟩
theorem qcall_v {post : Heap → Prop} {A1 : Nat → Prop} {av : Array Value} (hr : va_Run p l e R s m args below meth c H locs cells slots 0 0 (F0 m pc ls st0) rest (qQv post A1 av) A1) (hS : va_S A H0 H locs) (hA : ∀ q, A1 q → A q)
    (kk : ∀ (H1 : Heap) (locs1 : List Loc), post H1 → H1.size = H.size → (∀ q : Nat, ¬ A1 q → H1[q]? = H[q]?) → va_S A H0 H1 locs1 → W p l e R s m args below meth c H1 locs1 cells slots Q (F0 m (pc + 3) ls rest)) : W p l e R s m args below meth c H locs cells slots Q (F0 m pc ls st0) := by
  intro T hT X
  obtain ⟨v, st₀, t, T', L, h0, X', hL, e1, e2, ⟨⟨hv, hp⟩, hz, hk⟩, st⟩ := hr T hT X
  cases hv
  rw [h0] at hz hk
  obtain ⟨t2, a1, b1⟩ := kk T'.heap (locs ++ L) (by rw [e1]; exact hp) (by rw [e1]; exact hz) (fun q h => by rw [e1]; exact hk q h)
    ⟨Nat.le_trans hS.1 (by rw [e1, hz]; exact Nat.le_refl _), fun q h1 h2 => by rw [e1, hk q (fun z => h2 (hA q z))]; exact hS.2.1 q h1 h2, fun q hq => by
      rcases List.mem_append.mp hq with h | h
      · exact hS.2.2 q h
      · exact hA _ (hL q h)⟩ T' rfl X'
  exact ⟨t2, st t2 a1, b1⟩
theorem qc_i {post : Int32 → Heap → Prop} {A1 : Nat → Prop} {av : Array Value} (hr : va_Run p l e R s m args below meth c H locs cells slots 0 0 (F0 m pc ls st0) rest (qQi post A1 av) A1) (hS : qS A H0 H locs) (hA : ∀ q, A1 q → A q)
    (kk : ∀ (r : Int32) (H1 : Heap) (locs1 : List Loc), post r H1 → H1.size = H.size → (∀ q : Nat, ¬ A1 q → H1[q]? = H[q]?) → qS A H0 H1 locs1 → W p l e R s m args below meth c H1 locs1 cells slots Q (F0 m (pc + 3) ls (.int r :: rest))) : W p l e R s m args below meth c H locs cells slots Q (F0 m pc ls st0) := by
  intro T hT X
  obtain ⟨v, st₀, t, T', L, h0, X', hL, e1, e2, ⟨⟨r, hv, hp⟩, hz, hk⟩, st⟩ := hr T hT X
  cases hv
  rw [h0] at hz hk
  obtain ⟨t2, a1, b1⟩ := kk r T'.heap (locs ++ L) (by rw [e1]; exact hp) (by rw [e1]; exact hz) (fun q h => by rw [e1]; exact hk q h)
    (hS.call (by rw [e1]; exact hz) (fun q h => by rw [e1]; exact hk q h) hA hL) T' rfl X'
  exact ⟨t2, st t2 a1, b1⟩
theorem qc_v {post : Heap → Prop} {A1 : Nat → Prop} {av : Array Value} (hr : va_Run p l e R s m args below meth c H locs cells slots 0 0 (F0 m pc ls st0) rest (qQv post A1 av) A1) (hS : qS A H0 H locs) (hA : ∀ q, A1 q → A q)
    (kk : ∀ (H1 : Heap) (locs1 : List Loc), post H1 → H1.size = H.size → (∀ q : Nat, ¬ A1 q → H1[q]? = H[q]?) → qS A H0 H1 locs1 → W p l e R s m args below meth c H1 locs1 cells slots Q (F0 m (pc + 3) ls rest)) : W p l e R s m args below meth c H locs cells slots Q (F0 m pc ls st0) := by
  intro T hT X
  obtain ⟨v, st₀, t, T', L, h0, X', hL, e1, e2, ⟨⟨hv, hp⟩, hz, hk⟩, st⟩ := hr T hT X
  cases hv
  rw [h0] at hz hk
  obtain ⟨t2, a1, b1⟩ := kk T'.heap (locs ++ L) (by rw [e1]; exact hp) (by rw [e1]; exact hz) (fun q h => by rw [e1]; exact hk q h)
    (hS.call (by rw [e1]; exact hz) (fun q h => by rw [e1]; exact hk q h) hA hL) T' rfl X'
  exact ⟨t2, st t2 a1, b1⟩
theorem qr_get (hexec : p.tables.exec = Jvm.exec) (hb : c.code = cc) {own C : String} {T : u_T} {N ci index : Nat} {Ts : List Cond} (hts : ∀ w ∈ Ts, w.before args s = true) (hin : ∀ w ∈ u_ws C T N, w ∈ Ts) (hown : s.vm.findClass own = some m.cls) (hK : qK dd ga s) {fs : List Value} (hP : va_at dd vwCl (a, .inr (ci, fs)) H) (hc : vwCl[ci]? = some (C, T, N)) (k : Nat) (hk : k < N) (hlink : (Cond.fieldLink own index (T k).1 (T k).2.1 (T k).2.2.1).before args s = true) {v : Value} (hv : fs[k]? = some v) (hdg : decode cc pc = .ok (.getfield index, 3))
    (kk : W p l e R s m args below meth c H locs cells slots Q (F0 m (pc + 3) ls (v :: rest))) : W p l e R s m args below meth c H locs cells slots Q (F0 m pc ls (.ref a :: rest)) :=
  va_get hexec hb hts hin hown hK.1 (qr_one hP) 0 rfl hc k hk hlink (fun _ h => h) hv hdg kk
theorem qr_put (hexec : p.tables.exec = Jvm.exec) (hb : c.code = cc) {own C : String} {T : u_T} {N ci index : Nat} {Ts : List Cond} (hts : ∀ w ∈ Ts, w.before args s = true) (hin : ∀ w ∈ u_ws C T N, w ∈ Ts) (ty0 : Nat → FieldType) (hty : ∀ k, k < N → parseFieldDescriptor (T k).2.2.1 = some (ty0 k)) (hnm : ∀ a, a < N → ∀ b, b < N → a ≠ b → (T a).2.1 ≠ (T b).2.1) (hown : s.vm.findClass own = some m.cls) (hK : qK dd ga s) {fs : List Value} (hP : va_at dd vwCl (a, .inr (ci, fs)) H) (hS0 : qS A H0 H locs) (hA : A a) (hc : vwCl[ci]? = some (C, T, N)) (k : Nat) (hk : k < N) (hlink : (Cond.fieldLink own index (T k).1 (T k).2.1 (T k).2.2.1).before args s = true) (hfin : (T k).2.2.2 = false) {v : Value} (hn : narrow (ty0 k) v = v) (hfit : fits (ty0 k) v = true) (hl : k < fs.length)
    (hdg : decode cc pc = .ok (.putfield index, 3)) (kk : ∀ (H1 : Heap) (locs1 : List Loc), H1.size = H.size → (∀ q : Nat, q ≠ a → H1[q]? = H[q]?) → va_at dd vwCl (a, .inr (ci, fs.set k v)) H1 → qS A H0 H1 locs1 → W p l e R s m args below meth c H1 locs1 cells slots Q (F0 m (pc + 3) ls rest)) : W p l e R s m args below meth c H locs cells slots Q (F0 m pc ls (v :: .ref a :: rest)) := by
  have hap := va_apart (own := own) hts hin ty0 hty hnm hK.1 hc
  obtain ⟨r, h1, cell, q1, q2, q3, q4⟩ := hP
  have hr : r = (C, T, N) := Option.some.inj (h1.symm.trans hc)
  subst hr
  obtain ⟨hS, hfc, kC, hkC, hkind⟩ := hK.1.1 ci _ hc
  obtain ⟨cf, kf, fi, f, hi, hsl⟩ := hS k hk
  have hlay := hts _ (hin _ (u_in_lay hk))
  unfold u_lay at hlay
  rw [if_neg (by rw [hfin]; decide)] at hlay
  have hst := (u_facts hfc hkC (u_lays hts hin hk) hi).1
  have h6 := u_store hfc hkC hkind hlay hi (hty k hk) hn hfit
  refine W.putK hexec hb (f := f) ⟨hown, hlink, ⟨_, _, _, hi⟩, hst⟩ (by rw [q2]; exact h6) q1 q3 (by rw [hsl]; exact k2_hasslot (q4 k hk)) rfl rfl hdg fun H' e1 e2 e3 => ?_
  rw [hsl] at e1 ⊢
  exact kk H' _ e2 e3 ⟨_, hc, t_OB.to (V := updV (vp_V fs) k v) ⟨_, e1, q2, q3, t_set q4 hap hk v⟩ (fun j _ => vp_updV_set hl v j)⟩ (hS0.put e2 e3 hA)
theorem qr_iald (hexec : p.tables.exec = Jvm.exec) (hb : c.code = cc) (hK : qK dd ga s) {n : Nat} {f : Nat → Int32} (hP : va_at dd vwCl (a, .inl (ga 0, n, .inl f)) H) (i : Nat) (hi : i < n) (hn : n < 2 ^ 31) {x v : Int32} (hx : x = nI i) (hv : f i = v) (hdg : decode cc pc = .ok (.iaload, 1))
    (kk : W p l e R s m args below meth c H locs cells slots Q (F0 m (pc + 1) ls (.int v :: rest))) : W p l e R s m args below meth c H locs cells slots Q (F0 m pc ls (.int x :: .ref a :: rest)) := by
  subst hx
  refine va_iald hexec hb hK.1 (qr_one hP) 0 0 rfl rfl (vp_in_nI hi hn) hdg ?_
  rw [nI_clamp (Nat.lt_trans hi hn), hv]
  exact kk
theorem qr_zald (hexec : p.tables.exec = Jvm.exec) (hb : c.code = cc) (hK : qK dd ga s) {n : Nat} {f : Nat → Int32} (hP : va_at dd vwCl (a, .inl (ga 1, n, .inl f)) H) (i : Nat) (hi : i < n) (hn : n < 2 ^ 31) {x v : Int32} (hx : x = nI i) (hv : f i = v) (hdg : decode cc pc = .ok (.baload, 1))
    (kk : W p l e R s m args below meth c H locs cells slots Q (F0 m (pc + 1) ls (.int v :: rest))) : W p l e R s m args below meth c H locs cells slots Q (F0 m pc ls (.int x :: .ref a :: rest)) := by
  subst hx
  refine va_zald hexec hb hK.1 (qr_one hP) 0 1 rfl rfl (vp_in_nI hi hn) hdg ?_
  rw [nI_clamp (Nat.lt_trans hi hn), hv]
  exact kk
theorem qr_aald (hexec : p.tables.exec = Jvm.exec) (hb : c.code = cc) (hK : qK dd ga s) (t0 : Nat) {C : String} {cA : ClassId} {n : Nat} {f : Nat → Option Nat} (hP : va_at dd vwCl (a, .inl (cA, n, .inr (.inr (.inr (.inr f))))) H) (ht : (qT ga)[t0]? = some (cA, .object C)) (i : Nat) (hi : i < n) (hn : n < 2 ^ 31) {x : Int32} {v : Nat} (hx : x = nI i) (hv : f i = some v) (hdg : decode cc pc = .ok (.aaload, 1))
    (kk : W p l e R s m args below meth c H locs cells slots Q (F0 m (pc + 1) ls (.ref v :: rest))) : W p l e R s m args below meth c H locs cells slots Q (F0 m pc ls (.int x :: .ref a :: rest)) := by
  subst hx
  refine va_aldq hexec hb hK.1 (qr_one hP) 0 t0 rfl ht (vp_in_nI hi hn) hdg ?_
  rw [nI_clamp (Nat.lt_trans hi hn), hv]
  exact kk
theorem qr_alen (hexec : p.tables.exec = Jvm.exec) (hb : c.code = cc) (hK : qK dd ga s) {n : Nat} {f : Nat → Int32} (hP : va_at dd vwCl (a, .inl (ga 0, n, .inl f)) H) (hdg : decode cc pc = .ok (.arraylength, 1))
    (kk : W p l e R s m args below meth c H locs cells slots Q (F0 m (pc + 1) ls (.int (nI n) :: rest))) : W p l e R s m args below meth c H locs cells slots Q (F0 m pc ls (.ref a :: rest)) :=
  va_alen hexec hb hK.1 (qr_one hP) 0 0 rfl rfl rfl hdg kk
theorem qr_iast (hexec : p.tables.exec = Jvm.exec) (hb : c.code = cc) (hK : qK dd ga s) {n : Nat} {f : Nat → Int32} (hP : va_at dd vwCl (a, .inl (ga 0, n, .inl f)) H) (hS : qS A H0 H locs) (hA : A a) (i : Nat) (hi : i < n) (hn : n < 2 ^ 31) {x z : Int32} (hx : x = nI i) (hdg : decode cc pc = .ok (.iastore, 1))
    (kk : ∀ (H1 : Heap) (locs1 : List Loc), H1.size = H.size → (∀ q : Nat, q ≠ a → H1[q]? = H[q]?) → va_at dd vwCl (a, .inl (ga 0, n, .inl (upd f i z))) H1 → qS A H0 H1 locs1 → W p l e R s m args below meth c H1 locs1 cells slots Q (F0 m (pc + 1) ls rest)) : W p l e R s m args below meth c H locs cells slots Q (F0 m pc ls (.int z :: .int x :: .ref a :: rest)) := by
  subst hx
  refine W.iast hexec hb hP ((hK.1.2 0 _ rfl).1 n (fun j => .int (f j))) (fun q => by cases q) (by show ¬ (_ ∨ (arrV _ _ _).slots.size ≤ _); rw [arrV_size]; exact vp_in_nI hi hn) rfl rfl hdg fun H1 e1 e2 e3 => ?_
  refine kk H1 _ e2 e3 ?_ (hS.put e2 e3 hA)
  show H1[a]? = some (vp_cell _ _)
  rw [e1, vp_cell_i, vp_cell_i, arrV_store, nI_clamp (Nat.lt_trans hi hn)]
  congr 2
  funext q
  by_cases hq : q = i
  · subst hq
    simp [updV, upd]
  · simp [updV, upd, hq]
theorem qr_zast (hexec : p.tables.exec = Jvm.exec) (hb : c.code = cc) (hK : qK dd ga s) {n : Nat} {f : Nat → Int32} (hP : va_at dd vwCl (a, .inl (ga 1, n, .inl f)) H) (hS : qS A H0 H locs) (hA : A a) (i : Nat) (hi : i < n) (hn : n < 2 ^ 31) {x z : Int32} (hx : x = nI i) (hz : narrow .boolean (.int z) = .int z) (hdg : decode cc pc = .ok (.bastore, 1))
    (kk : ∀ (H1 : Heap) (locs1 : List Loc), H1.size = H.size → (∀ q : Nat, q ≠ a → H1[q]? = H[q]?) → va_at dd vwCl (a, .inl (ga 1, n, .inl (upd f i z))) H1 → qS A H0 H1 locs1 → W p l e R s m args below meth c H1 locs1 cells slots Q (F0 m (pc + 1) ls rest)) : W p l e R s m args below meth c H locs cells slots Q (F0 m pc ls (.int z :: .int x :: .ref a :: rest)) := by
  subst hx
  refine W.zast hexec hb hP ((hK.1.2 1 _ rfl).1 n (fun j => .int (f j))) (fun q => by cases q) (by show ¬ (_ ∨ (arrV _ _ _).slots.size ≤ _); rw [arrV_size]; exact vp_in_nI hi hn) rfl rfl hdg fun H1 e1 e2 e3 => ?_
  refine kk H1 _ e2 e3 ?_ (hS.put e2 e3 hA)
  show H1[a]? = some (vp_cell _ _)
  rw [e1, hz, vp_cell_i, vp_cell_i, arrV_store, nI_clamp (Nat.lt_trans hi hn)]
  congr 2
  funext q
  by_cases hq : q = i
  · subst hq
    simp [updV, upd]
  · simp [updV, upd, hq]
theorem q_ti {x y : Int32} (h : x = y) (k : W p l e R s m args below meth c H locs cells slots Q (F0 m pc ls (.int y :: rest))) : W p l e R s m args below meth c H locs cells slots Q (F0 m pc ls (.int x :: rest)) := h ▸ k
theorem q_iret {post : Int32 → Heap → Prop} {v : Int32} (hexec : p.tables.exec = Jvm.exec) (hb : c.code = cc) (hr : meth.sig.returnType = some .int) (hlocks : meth.locks = false) (hS : qS A s.heap H locs) (hp : post v H) (hdg : decode cc pc = .ok (.ireturn, 1)) : W p l e R s m args below meth c H locs cells slots (MQ below (qQi post A) args s cells slots A) (F0 m pc ls [.int v]) :=
  W.iret hexec hb hr (fun t ht _ => ⟨⟨v, rfl, by rw [ht]; exact hp⟩, by rw [ht]; exact hS.1, fun q h => by rw [ht]; exact hS.2.1 q h⟩) hS.2.2 hdg hlocks
theorem q_zret {post : Int32 → Heap → Prop} {v : Int32} (hexec : p.tables.exec = Jvm.exec) (hb : c.code = cc) (hr : meth.sig.returnType = some .boolean) (hlocks : meth.locks = false) (hn : narrow .boolean (.int v) = .int v) (hS : qS A s.heap H locs) (hp : post v H) (hdg : decode cc pc = .ok (.ireturn, 1)) : W p l e R s m args below meth c H locs cells slots (MQ below (qQi post A) args s cells slots A) (F0 m pc ls [.int v]) :=
  W.zret hexec hb hr hn (fun t ht _ => ⟨⟨v, rfl, by rw [ht]; exact hp⟩, by rw [ht]; exact hS.1, fun q h => by rw [ht]; exact hS.2.1 q h⟩) hS.2.2 hdg hlocks
theorem q_vret {post : Heap → Prop} (hexec : p.tables.exec = Jvm.exec) (hb : c.code = cc) (hr : meth.sig.returnType = none) (hlocks : meth.locks = false) (hS : qS A s.heap H locs) (hp : post H) (hdg : decode cc pc = .ok (.return_, 1)) : W p l e R s m args below meth c H locs cells slots (MQ below (qQv post A) args s cells slots A) (F0 m pc ls []) :=
  W.vret hexec hb hr (fun t ht _ => ⟨⟨rfl, by rw [ht]; exact hp⟩, by rw [ht]; exact hS.1, fun q h => by rw [ht]; exact hS.2.1 q h⟩) hS.2.2 hdg hlocks
end QR
theorem qa_kept {dd : va_G} {a : Nat} {e0 : va_E} {H H1 : Heap} (h : va_at dd vwCl (a, e0) H) (h1 : H1[a]? = H[a]?) : va_at dd vwCl (a, e0) H1 := va_at.kept h h1
