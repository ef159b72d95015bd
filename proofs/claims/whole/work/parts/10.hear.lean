/-! what messages do in the class -/
theorem q_send_len (σ : qSt) (f t : Nat) (x y : Int32) (f' t' : Nat) : ((s_send σ f t x y).2.2.2.1 f' t').length ≤ (σ.2.2.2.1 f' t').length + 1 := by
  show (q2 σ.2.2.2.1 f t _ f' t').length ≤ _
  by_cases h : f' = f ∧ t' = t
  · obtain ⟨rfl, rfl⟩ := h
    rw [q2_s, List.length_append]; exact Nat.le_refl _
  · rw [q2_n h]; omega
theorem q_asked_none {σ : qSt} {i a : Nat} {t : Int32} (h : σ.2.1 i = none) : q_asked σ i a t = q_lend σ i a t := by simp [q_asked, h]
theorem q_asked_no {σ : qSt} {i a b : Nat} {t u : Int32} (h : σ.2.1 i = some (b, u)) (hc : ¬ (q_pl (σ.2.2.1 i) a t (σ.2.2.1 i).length = 0 ∧ q_bef t a u b = true)) : q_asked σ i a t = s_send (s_rw σ i (q_ins (σ.2.2.1 i) a t)) i a 6 t := by
  unfold q_asked
  rw [h]
  simp only
  rw [if_neg hc]
theorem q_asked_yes0 {σ : qSt} {i a b : Nat} {t u : Int32} (h : σ.2.1 i = some (b, u)) (h1 : q_pl (σ.2.2.1 i) a t (σ.2.2.1 i).length = 0) (h2 : q_bef t a u b = true) (h3 : ¬ q_press (σ.2.2.1 i) u b = true) : q_asked σ i a t = if σ.1 6 i = 0 then s_tb (s_send (s_rw σ i (q_ins (σ.2.2.1 i) a t)) i b 4 u) 6 i 1 else s_rw σ i (q_ins (σ.2.2.1 i) a t) := by
  unfold q_asked
  rw [h]
  simp only
  rw [if_pos ⟨h1, h2⟩]
  cases hr : σ.2.2.1 i with
  | nil => rfl
  | cons x r =>
    rw [hr] at h3
    simp only
    rw [if_neg (show ¬ q_bef x.2 x.1 u b = true from h3)]
theorem q_asked_yes1 {σ : qSt} {i a b : Nat} {t u : Int32} {x : Nat × Int32} {r : List (Nat × Int32)} (h : σ.2.1 i = some (b, u)) (h1 : q_pl (σ.2.2.1 i) a t (σ.2.2.1 i).length = 0) (h2 : q_bef t a u b = true) (hr : σ.2.2.1 i = x :: r) (h3 : q_press (σ.2.2.1 i) u b = true) : q_asked σ i a t = if σ.1 6 i = 0 then s_tb (s_send (s_send (s_rw σ i (q_ins (σ.2.2.1 i) a t)) i x.1 6 x.2) i b 4 u) 6 i 1 else s_send (s_rw σ i (q_ins (σ.2.2.1 i) a t)) i x.1 6 x.2 := by
  unfold q_asked
  rw [h]
  simp only
  rw [if_pos ⟨h1, h2⟩, hr]
  rw [hr] at h3
  simp only
  rw [if_pos (show q_bef x.2 x.1 u b = true from h3)]
theorem q_ins0 {r : List (Nat × Int32)} {a : Nat} {t : Int32} (h : q_pl r a t r.length = 0) : q_ins r a t = (a, t) :: r := by simp [q_ins, h]
theorem q_ins_mem {r : List (Nat × Int32)} {a : Nat} {t : Int32} {x : Nat × Int32} (h : x ∈ q_ins r a t) : x = (a, t) ∨ x ∈ r := by
  unfold q_ins at h
  rcases List.mem_append.mp h with h | h
  · exact Or.inr (List.mem_of_mem_take h)
  · rcases List.mem_cons.mp h with h | h
    · exact Or.inl h
    · exact Or.inr (List.mem_of_mem_drop h)
theorem q_nI_m1 {a : Nat} (h : a < 2 ^ 31) : nI a ≠ -1 := fun e => absurd (show nI a < 0 by rw [e]; decide) (nI_pos h)
theorem q_ln_eq {o : Option (Nat × Int32)} {a : Nat} {t : Int32} (ha : a < 2 ^ 31) (ho : ∀ x, o = some x → x.1 < 2 ^ 31) (h1 : q_on o = nI a) (h2 : q_ot o = t) : o = some (a, t) := by
  cases o with
  | none => exact absurd h1.symm (q_nI_m1 ha)
  | some x =>
    have := ho x rfl
    have h3 : x.1 = a := (nI_eq this ha).mp h1
    have h4 : x.2 = t := h2
    obtain ⟨x1, x2⟩ := x
    subst h3 h4
    rfl
theorem q_at0 {x : Nat × Int32} {r : List (Nat × Int32)} (h : r.length + 1 < 2 ^ 31) : q_at (x :: r) 0 = nI x.1 ∧ q_att (x :: r) 0 = x.2 := by
  have h0 : ¬ ((0 : Int32) < 0 ∨ nI (x :: r).length ≤ 0) := by
    rintro (h9 | h9)
    · exact absurd h9 (by decide)
    · exact absurd h9 (nI_nle (by simp) (by simpa using h))
  constructor
  · unfold q_at; rw [if_neg h0]; rfl
  · unfold q_att; rw [if_neg h0]; rfl
theorem q_at1 {y x : Nat × Int32} {r : List (Nat × Int32)} (h : r.length + 2 < 2 ^ 31) : q_at (y :: x :: r) 1 = nI x.1 ∧ q_att (y :: x :: r) 1 = x.2 := by
  have h0 : ¬ ((1 : Int32) < 0 ∨ nI (y :: x :: r).length ≤ 1) := by
    rintro (h9 | h9)
    · exact absurd h9 (by decide)
    · exact absurd h9 (show ¬ nI (y :: x :: r).length ≤ nI 1 from nI_ge (by simp) (by simpa using h))
  constructor
  · unfold q_at; rw [if_neg h0]; rfl
  · unfold q_att; rw [if_neg h0]; rfl
theorem q_sw {x : Int32} (h1 : x ≠ 1) (h2 : x ≠ 2) (h3 : x ≠ 3) (h4 : x ≠ 4) (h5 : x ≠ 5) : x.toInt < 1 ∨ 5 < x.toInt := by
  apply Classical.byContradiction
  intro h
  have h6 : x.toInt = 1 ∨ x.toInt = 2 ∨ x.toInt = 3 ∨ x.toInt = 4 ∨ x.toInt = 5 := by omega
  rcases h6 with h6 | h6 | h6 | h6 | h6
  · exact h1 (Int32.toInt_inj.mp (h6.trans (by decide)))
  · exact h2 (Int32.toInt_inj.mp (h6.trans (by decide)))
  · exact h3 (Int32.toInt_inj.mp (h6.trans (by decide)))
  · exact h4 (Int32.toInt_inj.mp (h6.trans (by decide)))
  · exact h5 (Int32.toInt_inj.mp (h6.trans (by decide)))
theorem qCap.pop {n k : Nat} {σ : qSt} (h : qCap n k σ) {f t : Nat} {x : qM} {w : List qM} (hw : σ.2.2.2.1 f t = x :: w) (v : Int32) : qCap n k (s_wr (s_tb σ 0 t v) f t w) := by
  refine ⟨fun f' t' hf ht => ?_, h.2.1, h.2.2.1, h.2.2.2.1, fun i hi => ?_⟩
  · show (q2 σ.2.2.2.1 f t w f' t').length ≤ 6
    by_cases h9 : f' = f ∧ t' = t
    · obtain ⟨rfl, rfl⟩ := h9
      have := h.1 f' t' hf ht
      rw [hw] at this
      rw [q2_s]
      simp at this
      omega
    · rw [q2_n h9]; exact h.1 f' t' hf ht
  · show q2 σ.1 0 t v 6 i = 0 ∨ q2 σ.1 0 t v 6 i = 1
    rw [q2_n (by omega)]
    exact h.2.2.2.2 i hi
set_option maxHeartbeats 4000000 in
set_option maxRecDepth 100000 in
/-- X4_hearLocked -/
theorem c_X4_hearLocked (l : Launch) (dd : va_G) (ga : Nat → ClassId) (n k : Nat) (ad : Nat → Nat → Nat) (σ : qSt) (hsq : qSq n k) (hL : qL n ad) (i j : Nat) (hi : i < n) (hj : j < n) (t : Int32) : Met l yX4_hearLocked wsX4_hearLocked ({ frames := 1, cells := 0, slots := 0, locals := 21 }) (qPc dd ga [.ref (ad 0 0), .int (nI i), .int (nI j), .int t] (fun H => qC dd ga n k ad σ H)) (qQv (fun H => qC dd ga n k ad (q_locked σ i j t) H) (qA n ad)) 0 0 (qA n ad) := by
  refine Met.ofW (cc := cX4_hearLocked) (maxL := 5) (ret := none) (by decide) rfl ?_
  intro p e s m args below meth c s₁ B hml hv
  obtain ⟨rfl, hC, hK⟩ := hv
  have hx := B.exec
  have hb := B.bytes
  have hr := B.returns
  have hts := atoms_spec (ws := wsX4_hearLocked) B.pre
  have hown : s.vm.findClass RX4 = some m.cls := findClass_of_methodNamed B.named
  have hlocks := B.notSynchronized
  have hS : qS (qA n ad) s.heap s.heap [] := qS.rf
  have hl := lv_entry ([.ref (ad 0 0), .int (nI i), .int (nI j), .int t]) (n := 5) (Nat.le_of_ble_eq_true rfl)
  rw [lg_entry_eq]
  generalize (lg_sl ([.ref (ad 0 0), .int (nI i), .int (nI j), .int t]) ++ List.replicate (5 - (lg_sl ([.ref (ad 0 0), .int (nI i), .int (nI j), .int t])).length) Slot.unset).toArray = ls at hl ⊢
  have hin0 : ∀ w ∈ wsX00, w ∈ wsX4_hearLocked := by decide +kernel
  have hin4 : ∀ w ∈ wsX40, w ∈ wsX4_hearLocked := by decide +kernel
  have hn1 := hsq.n.1
  have hn16 := hsq.n.2
  refine lv_aload_n hx hb dX4_hearLocked_0 rfl (lv_at hl 0 rfl) ?_
  refine qr_get (ci := 4) (C := RX4) (T := TX4) (N := 7) hx hb hts hin4 hown hK hC.self rfl 3 (by decide) (hts (.fieldLink RX4 31 "QuorumLock" "askers" "[LQuorumLock$Asker;") (by decide +kernel)) rfl dX4_hearLocked_1 ?_
  refine lv_iload_n hx hb dX4_hearLocked_4 rfl (lv_at hl 1 rfl) ?_
  refine qr_aald (v := ad 10 i) hx hb hK 2 hC.arA rfl i (by omega) (by omega) rfl rfl dX4_hearLocked_5 ?_
  refine lv_astore (lv' := [(4, .ref (ad 10 i)), (0, .ref (ad 0 0)), (1, .int (nI i)), (2, .int (nI j)), (3, .int t)]) hx hb dX4_hearLocked_6 hl (by decide) rfl (fun ls hl => ?_)
  refine lv_aload hx hb dX4_hearLocked_8 (lv_at hl 0 rfl) ?_
  refine qr_get (ci := 0) (C := RX0) (T := TX0) (N := 5) hx hb hts hin0 hown hK (hC.ask i hi) rfl 0 (by decide) (hts (.fieldLink RX4 74 "QuorumLock$Asker" "state" "I") (by decide +kernel)) rfl dX4_hearLocked_10 ?_
  refine lv_if_eq (tgt := 31) hx hb dX4_hearLocked_13 (by decide) (fun c_13 => ?_) (fun c_13 => ?_)
  · have hfin : qC dd ga n k ad (q_locked σ i j t) s.heap := by rw [q_locked, if_neg (fun h => h.1 c_13)]; exact hC
    exact q_vret hx hb hr hlocks hS hfin dX4_hearLocked_31
  · refine lv_aload hx hb dX4_hearLocked_16 (lv_at hl 0 rfl) ?_
    refine qr_get (ci := 0) (C := RX0) (T := TX0) (N := 5) hx hb hts hin0 hown hK (hC.ask i hi) rfl 1 (by decide) (hts (.fieldLink RX4 80 "QuorumLock$Asker" "time" "I") (by decide +kernel)) rfl dX4_hearLocked_18 ?_
    refine lv_iload_n hx hb dX4_hearLocked_21 rfl (lv_at hl 4 rfl) ?_
    refine lv_icmp_ne (tgt := 31) hx hb dX4_hearLocked_22 (by decide) (fun c_22 => ?_) (fun c_22 => ?_)
    · have hfin : qC dd ga n k ad (q_locked σ i j t) s.heap := by rw [q_locked, if_neg (fun h => c_22 h.2)]; exact hC
      exact q_vret hx hb hr hlocks hS hfin dX4_hearLocked_31
    · refine lv_aload hx hb dX4_hearLocked_25 (lv_at hl 0 rfl) ?_
      refine lv_iload_n hx hb dX4_hearLocked_27 rfl (lv_at hl 3 rfl) ?_
      refine qc_v (va_runV (As := [.int (nI j)]) (rest := []) ⟨hx, hb, hml, hown, hts⟩ (c_X0_gainVote l dd ga (ad 10 i) (σ.1 1 i) (σ.1 2 i) (σ.1 3 i) (σ.1 4 i) (σ.1 5 i) (nI j)) (cwV 1 hts gX4_hearLocked_X0_gainVote rfl rfl rfl (by decide +kernel) ⟨Nat.le_of_ble_eq_true rfl, Nat.le_of_ble_eq_true rfl⟩) (qpreV hK (hC.ask i hi) (hC.ask i hi) rfl) rfl rfl hl.1 rfl (lv_room (Nat.le_of_ble_eq_true rfl)) dX4_hearLocked_28 ⟨Nat.zero_le _, Nat.zero_le _⟩) hS (fun q h => qA.at (by decide) (by decide) hi h) (fun H locs hp9 hz9 ho9 hS => ?_)
      have hC := hC.putAsk (σ' := q_locked σ i j t) hL hi ho9 (by rw [q_locked, if_pos ⟨c_13, c_22⟩]; simpa [s_tb, q2, q_bit, q_nbit] using hp9) (fun f j h => by rw [q_locked, if_pos ⟨c_13, c_22⟩]; simp only [s_tb, q2]; repeat rw [if_neg (by omega)]) (by rw [q_locked, if_pos ⟨c_13, c_22⟩]; rfl)
      have hfin := hC
      exact q_vret hx hb hr hlocks hS hfin dX4_hearLocked_31
set_option maxHeartbeats 4000000 in
set_option maxRecDepth 100000 in
/-- X4_hearFailed -/
theorem c_X4_hearFailed (l : Launch) (dd : va_G) (ga : Nat → ClassId) (n k : Nat) (ad : Nat → Nat → Nat) (σ : qSt) (hsq : qSq n k) (hL : qL n ad) (i j : Nat) (hi : i < n) (hj : j < n) (t : Int32) (hroom : ∀ t : Nat, t < n → (σ.2.2.2.1 i t).length ≤ 6) : Met l yX4_hearFailed wsX4_hearFailed ({ frames := 4, cells := 0, slots := 0, locals := 96 }) (qPc dd ga [.ref (ad 0 0), .int (nI i), .int (nI j), .int t] (fun H => qC dd ga n k ad σ H)) (qQv (fun H => qC dd ga n k ad (q_failed n σ i j t) H) (qA n ad)) 0 0 (qA n ad) := by
  refine Met.ofW (cc := cX4_hearFailed) (maxL := 6) (ret := none) (by decide) rfl ?_
  intro p e s m args below meth c s₁ B hml hv
  obtain ⟨rfl, hC, hK⟩ := hv
  have hx := B.exec
  have hb := B.bytes
  have hr := B.returns
  have hts := atoms_spec (ws := wsX4_hearFailed) B.pre
  have hown : s.vm.findClass RX4 = some m.cls := findClass_of_methodNamed B.named
  have hlocks := B.notSynchronized
  have hS : qS (qA n ad) s.heap s.heap [] := qS.rf
  have hl := lv_entry ([.ref (ad 0 0), .int (nI i), .int (nI j), .int t]) (n := 6) (Nat.le_of_ble_eq_true rfl)
  rw [lg_entry_eq]
  generalize (lg_sl ([.ref (ad 0 0), .int (nI i), .int (nI j), .int t]) ++ List.replicate (6 - (lg_sl ([.ref (ad 0 0), .int (nI i), .int (nI j), .int t])).length) Slot.unset).toArray = ls at hl ⊢
  have hin0 : ∀ w ∈ wsX00, w ∈ wsX4_hearFailed := by decide +kernel
  have hin4 : ∀ w ∈ wsX40, w ∈ wsX4_hearFailed := by decide +kernel
  have hn1 := hsq.n.1
  have hn16 := hsq.n.2
  have hloop : ∀ (c9 j9 : Nat) (τ : qSt) (ls : Array Slot) (H : Heap) (locs : List Loc), j9 + c9 = n → q_failed n σ i j t = q_gives i c9 j9 τ → (∀ t : Nat, j9 ≤ t → t < n → (τ.2.2.2.1 i t).length ≤ 6) → qC dd ga n k ad τ H → qS (qA n ad) s.heap H locs → lv_has ls 6 [(5, .int (nI j9)), (0, .ref (ad 0 0)), (1, .int (nI i)), (4, .ref (ad 10 i))] → W p l e (headSpec wsX4_hearFailed ({ frames := 4, cells := 0, slots := 0, locals := 96 })).room s m (([.ref (ad 0 0), .int (nI i), .int (nI j), .int t] : List Value).toArray) below meth c H locs 0 0 (MQ below (qQv (fun H => qC dd ga n k ad (q_failed n σ i j t) H) (qA n ad)) (([.ref (ad 0 0), .int (nI i), .int (nI j), .int t] : List Value).toArray) s 0 0 (qA n ad)) (F0 m 34 ls []) := by
    intro c9
    induction c9 with
    | zero =>
      intro j9 τ ls H locs hc he hw hC hS hl
      refine lv_iload hx hb dX4_hearFailed_34 (lv_at hl 0 rfl) ?_
      refine lv_aload_n hx hb dX4_hearFailed_36 rfl (lv_at hl 1 rfl) ?_
      refine qr_get (ci := 4) (C := RX4) (T := TX4) (N := 7) hx hb hts hin4 hown hK hC.self rfl 0 (by decide) (hts (.fieldLink RX4 18 "QuorumLock" "nodes" "I") (by decide +kernel)) rfl dX4_hearFailed_37 ?_
      refine lv_icmp_ge (tgt := 75) hx hb dX4_hearFailed_40 (by decide) (fun c_40 => ?_) (fun c_40 => absurd (nI_le (show n ≤ j9 by omega) (by omega)) c_40)
      exact q_vret hx hb hr hlocks hS (by rw [he]; exact hC) dX4_hearFailed_75
    | succ c9 ih =>
      intro j9 τ ls H locs hc he hw hC hS hl
      refine lv_iload hx hb dX4_hearFailed_34 (lv_at hl 0 rfl) ?_
      refine lv_aload_n hx hb dX4_hearFailed_36 rfl (lv_at hl 1 rfl) ?_
      refine qr_get (ci := 4) (C := RX4) (T := TX4) (N := 7) hx hb hts hin4 hown hK hC.self rfl 0 (by decide) (hts (.fieldLink RX4 18 "QuorumLock" "nodes" "I") (by decide +kernel)) rfl dX4_hearFailed_37 ?_
      refine lv_icmp_ge (tgt := 75) hx hb dX4_hearFailed_40 (by decide) (fun c_40 => absurd c_40 (nI_ge (by omega) (by omega))) (fun c_40 => ?_)
      refine lv_aload hx hb dX4_hearFailed_43 (lv_at hl 3 rfl) ?_
      refine qr_get (ci := 0) (C := RX0) (T := TX0) (N := 5) hx hb hts hin0 hown hK (hC.ask i hi) rfl 2 (by decide) (hts (.fieldLink RX4 94 "QuorumLock$Asker" "votes" "I") (by decide +kernel)) rfl dX4_hearFailed_45 ?_
      refine lv_aload hx hb dX4_hearFailed_48 (lv_at hl 3 rfl) ?_
      refine qr_get (ci := 0) (C := RX0) (T := TX0) (N := 5) hx hb hts hin0 hown hK (hC.ask i hi) rfl 4 (by decide) (hts (.fieldLink RX4 123 "QuorumLock$Asker" "inquiries" "I") (by decide +kernel)) rfl dX4_hearFailed_50 ?_
      refine lv_iand hx hb dX4_hearFailed_53 ?_
      refine lv_iload hx hb dX4_hearFailed_54 (lv_at hl 0 rfl) ?_
      refine qc_i (va_runS (As := [.int ((τ.1 3 i) &&& (τ.1 5 i)), .int (nI j9)]) (rest := []) ⟨hx, hb, hml, hown, hts⟩ (c_X4_has l dd ga (τ.1 3 i &&& τ.1 5 i) j9) (va_cwS 2 hts gX4_hearFailed_X4_has rfl rfl rfl (by decide +kernel) ⟨Nat.le_of_ble_eq_true rfl, Nat.le_of_ble_eq_true rfl⟩) (qpreS hK trivial) rfl rfl hl.1 rfl (lv_room (Nat.le_of_ble_eq_true rfl)) dX4_hearFailed_56 ⟨Nat.zero_le _, Nat.zero_le _⟩) hS (fun q h => h.elim) (fun v56 H locs hp9 hz9 ho9 hS => ?_)
      have e56 : v56 = _ := hp9
      have hC := hC.same (fun q => ho9 q (fun h => h))
      refine lv_if_eq (tgt := 69) hx hb dX4_hearFailed_59 (by decide) (fun c_59 => ?_) (fun c_59 => ?_)
      · have h56 : ¬ q_has (τ.1 3 i &&& τ.1 5 i) j9 = true := fun h => by rw [if_pos h] at e56; rw [e56] at c_59; exact absurd c_59 (by decide)
        refine lv_iinc (v := nI (j9 + 1)) (lv' := [(5, .int (nI (j9 + 1))), (0, .ref (ad 0 0)), (1, .int (nI i)), (4, .ref (ad 10 i))]) hx hb dX4_hearFailed_69 hl (k := 0) rfl (nI_1 _) (by decide) rfl (fun ls hl => ?_)
        refine lv_goto (tgt := 34) hx hb dX4_hearFailed_72 (by decide) ?_
        refine ih (j9 + 1) (τ) ls _ _ (by omega) (by rw [he, q_gives, if_neg h56]) (fun t h1 h2 => ?_) hC hS (lv_sub hl [0, 1, 2, 3] rfl)
        exact hw t (by omega) h2
      · have h56 : q_has (τ.1 3 i &&& τ.1 5 i) j9 = true := Classical.byContradiction fun h => by rw [if_neg h] at e56; exact c_59 e56
        refine lv_aload_n hx hb dX4_hearFailed_62 rfl (lv_at hl 1 rfl) ?_
        refine lv_iload_n hx hb dX4_hearFailed_63 rfl (lv_at hl 2 rfl) ?_
        refine lv_iload hx hb dX4_hearFailed_64 (lv_at hl 0 rfl) ?_
        refine qc_v (va_runV (As := [.int (nI i), .int (nI j9)]) (rest := []) ⟨hx, hb, hml, hown, hts⟩ (c_X4_giveUp l dd ga n k ad τ hsq hL i j9 hi (by omega) (by have := hw j9 (Nat.le_refl _) (by omega); omega)) (cwV 2 hts gX4_hearFailed_X4_giveUp rfl rfl rfl (by decide +kernel) ⟨Nat.le_of_ble_eq_true rfl, Nat.le_of_ble_eq_true rfl⟩) (qpreV hK hC hC.self rfl) rfl rfl hl.1 rfl (lv_room (Nat.le_of_ble_eq_true rfl)) dX4_hearFailed_66 ⟨Nat.zero_le _, Nat.zero_le _⟩) hS (fun q h => h) (fun H locs hp9 hz9 ho9 hS => ?_)
        have hC := hp9
        refine lv_iinc (v := nI (j9 + 1)) (lv' := [(5, .int (nI (j9 + 1))), (0, .ref (ad 0 0)), (1, .int (nI i)), (4, .ref (ad 10 i))]) hx hb dX4_hearFailed_69 hl (k := 0) rfl (nI_1 _) (by decide) rfl (fun ls hl => ?_)
        refine lv_goto (tgt := 34) hx hb dX4_hearFailed_72 (by decide) ?_
        refine ih (j9 + 1) (q_giveUp τ i j9) ls _ _ (by omega) (by rw [he, q_gives, if_pos h56]) (fun t h1 h2 => ?_) hC hS (lv_sub hl [0, 1, 2, 3] rfl)
        rw [show (q_giveUp τ i j9).2.2.2.1 i t = τ.2.2.2.1 i t from q2_n (by omega)]; exact hw t (by omega) h2
  refine lv_aload_n hx hb dX4_hearFailed_0 rfl (lv_at hl 0 rfl) ?_
  refine qr_get (ci := 4) (C := RX4) (T := TX4) (N := 7) hx hb hts hin4 hown hK hC.self rfl 3 (by decide) (hts (.fieldLink RX4 31 "QuorumLock" "askers" "[LQuorumLock$Asker;") (by decide +kernel)) rfl dX4_hearFailed_1 ?_
  refine lv_iload_n hx hb dX4_hearFailed_4 rfl (lv_at hl 1 rfl) ?_
  refine qr_aald (v := ad 10 i) hx hb hK 2 hC.arA rfl i (by omega) (by omega) rfl rfl dX4_hearFailed_5 ?_
  refine lv_astore (lv' := [(4, .ref (ad 10 i)), (0, .ref (ad 0 0)), (1, .int (nI i)), (2, .int (nI j)), (3, .int t)]) hx hb dX4_hearFailed_6 hl (by decide) rfl (fun ls hl => ?_)
  refine lv_aload hx hb dX4_hearFailed_8 (lv_at hl 0 rfl) ?_
  refine lv_iload_n hx hb dX4_hearFailed_10 rfl (lv_at hl 4 rfl) ?_
  refine qc_i (va_runV (As := [.int t]) (rest := []) ⟨hx, hb, hml, hown, hts⟩ (c_X0_isAsking l dd ga (ad 10 i) (σ.1 1 i) (σ.1 2 i) (σ.1 3 i) (σ.1 4 i) (σ.1 5 i) t) (cwV 1 hts gX4_hearFailed_X0_isAsking rfl rfl rfl (by decide +kernel) ⟨Nat.le_of_ble_eq_true rfl, Nat.le_of_ble_eq_true rfl⟩) (qpreV hK (hC.ask i hi) (hC.ask i hi) rfl) rfl rfl hl.1 rfl (lv_room (Nat.le_of_ble_eq_true rfl)) dX4_hearFailed_11 ⟨Nat.zero_le _, Nat.zero_le _⟩) hS (fun q h => h.elim) (fun v11 H locs hp9 hz9 ho9 hS => ?_)
  have e11 : v11 = _ := hp9
  have hC := hC.same (fun q => ho9 q (fun h => h))
  refine lv_if_ne (tgt := 18) hx hb dX4_hearFailed_14 (by decide) (fun c_14 => ?_) (fun c_14 => ?_)
  · have h11 : σ.1 1 i = 1 ∧ σ.1 2 i = t := Classical.byContradiction fun h => by rw [if_neg h] at e11; exact c_14 e11
    refine lv_aload hx hb dX4_hearFailed_18 (lv_at hl 0 rfl) ?_
    refine lv_dup hx hb dX4_hearFailed_20 rfl ?_
    refine qr_get (ci := 0) (C := RX0) (T := TX0) (N := 5) hx hb hts hin0 hown hK (hC.ask i hi) rfl 3 (by decide) (hts (.fieldLink RX4 120 "QuorumLock$Asker" "failures" "I") (by decide +kernel)) rfl dX4_hearFailed_21 ?_
    refine lv_iconst (v := 1) hx hb dX4_hearFailed_24 (by decide) ?_
    refine lv_iload_n hx hb dX4_hearFailed_25 rfl (lv_at hl 3 rfl) ?_
    refine lv_ishl hx hb dX4_hearFailed_26 ?_
    refine lv_ior hx hb dX4_hearFailed_27 ?_
    refine qr_put (ci := 0) (C := RX0) (T := TX0) (N := 5) hx hb hts hin0 tyX0 tyX0_ok nmX0 hown hK (hC.ask i hi) hS (⟨10, i, qd.i (by decide) (by decide) hi, rfl⟩) rfl 3 (by decide) (hts (.fieldLink RX4 120 "QuorumLock$Asker" "failures" "I") (by decide +kernel)) rfl rfl rfl (Nat.le_of_ble_eq_true rfl) dX4_hearFailed_28 (fun H locs hz9 ho9 hat9 hS => ?_)
    have hC := hC.putAsk (σ' := s_tb σ 4 i (σ.1 4 i ||| q_bit j)) hL hi ho9 (by simpa [s_tb, q2, q_bit] using hat9) (fun f j h => by simp only [s_tb, q2]; repeat rw [if_neg (by omega)]) rfl
    refine lv_iconst (v := nI 0) hx hb dX4_hearFailed_31 (by decide) ?_
    refine lv_istore (lv' := [(5, .int (nI 0)), (4, .ref (ad 10 i)), (0, .ref (ad 0 0)), (1, .int (nI i)), (2, .int (nI j)), (3, .int t)]) hx hb dX4_hearFailed_32 hl (by decide) rfl (fun ls hl => ?_)
    exact hloop n 0 (s_tb σ 4 i (σ.1 4 i ||| q_bit j)) ls _ _ (by omega) (by rw [q_failed, if_pos h11]) (fun t _ h => hroom t h) hC hS (lv_sub hl [0, 2, 3, 1] rfl)
  · exact q_vret hx hb hr hlocks hS (by rw [q_failed, if_neg (fun h => by rw [if_pos h] at e11; rw [e11] at c_14; exact absurd c_14 (by decide))]; exact hC) dX4_hearFailed_17
set_option maxHeartbeats 4000000 in
set_option maxRecDepth 100000 in
/-- X4_hearInquire -/
theorem c_X4_hearInquire (l : Launch) (dd : va_G) (ga : Nat → ClassId) (n k : Nat) (ad : Nat → Nat → Nat) (σ : qSt) (hsq : qSq n k) (hL : qL n ad) (i j : Nat) (hi : i < n) (hj : j < n) (t : Int32) (hroom : (σ.2.2.2.1 i j).length < 8) : Met l yX4_hearInquire wsX4_hearInquire ({ frames := 4, cells := 0, slots := 0, locals := 96 }) (qPc dd ga [.ref (ad 0 0), .int (nI i), .int (nI j), .int t] (fun H => qC dd ga n k ad σ H)) (qQv (fun H => qC dd ga n k ad (q_inquire σ i j t) H) (qA n ad)) 0 0 (qA n ad) := by
  refine Met.ofW (cc := cX4_hearInquire) (maxL := 5) (ret := none) (by decide) rfl ?_
  intro p e s m args below meth c s₁ B hml hv
  obtain ⟨rfl, hC, hK⟩ := hv
  have hx := B.exec
  have hb := B.bytes
  have hr := B.returns
  have hts := atoms_spec (ws := wsX4_hearInquire) B.pre
  have hown : s.vm.findClass RX4 = some m.cls := findClass_of_methodNamed B.named
  have hlocks := B.notSynchronized
  have hS : qS (qA n ad) s.heap s.heap [] := qS.rf
  have hl := lv_entry ([.ref (ad 0 0), .int (nI i), .int (nI j), .int t]) (n := 5) (Nat.le_of_ble_eq_true rfl)
  rw [lg_entry_eq]
  generalize (lg_sl ([.ref (ad 0 0), .int (nI i), .int (nI j), .int t]) ++ List.replicate (5 - (lg_sl ([.ref (ad 0 0), .int (nI i), .int (nI j), .int t])).length) Slot.unset).toArray = ls at hl ⊢
  have hin0 : ∀ w ∈ wsX00, w ∈ wsX4_hearInquire := by decide +kernel
  have hin4 : ∀ w ∈ wsX40, w ∈ wsX4_hearInquire := by decide +kernel
  have hn1 := hsq.n.1
  have hn16 := hsq.n.2
  refine lv_aload_n hx hb dX4_hearInquire_0 rfl (lv_at hl 0 rfl) ?_
  refine qr_get (ci := 4) (C := RX4) (T := TX4) (N := 7) hx hb hts hin4 hown hK hC.self rfl 3 (by decide) (hts (.fieldLink RX4 31 "QuorumLock" "askers" "[LQuorumLock$Asker;") (by decide +kernel)) rfl dX4_hearInquire_1 ?_
  refine lv_iload_n hx hb dX4_hearInquire_4 rfl (lv_at hl 1 rfl) ?_
  refine qr_aald (v := ad 10 i) hx hb hK 2 hC.arA rfl i (by omega) (by omega) rfl rfl dX4_hearInquire_5 ?_
  refine lv_astore (lv' := [(4, .ref (ad 10 i)), (0, .ref (ad 0 0)), (1, .int (nI i)), (2, .int (nI j)), (3, .int t)]) hx hb dX4_hearInquire_6 hl (by decide) rfl (fun ls hl => ?_)
  refine lv_aload hx hb dX4_hearInquire_8 (lv_at hl 0 rfl) ?_
  refine lv_iload_n hx hb dX4_hearInquire_10 rfl (lv_at hl 4 rfl) ?_
  refine qc_i (va_runV (As := [.int t]) (rest := []) ⟨hx, hb, hml, hown, hts⟩ (c_X0_isAsking l dd ga (ad 10 i) (σ.1 1 i) (σ.1 2 i) (σ.1 3 i) (σ.1 4 i) (σ.1 5 i) t) (cwV 1 hts gX4_hearInquire_X0_isAsking rfl rfl rfl (by decide +kernel) ⟨Nat.le_of_ble_eq_true rfl, Nat.le_of_ble_eq_true rfl⟩) (qpreV hK (hC.ask i hi) (hC.ask i hi) rfl) rfl rfl hl.1 rfl (lv_room (Nat.le_of_ble_eq_true rfl)) dX4_hearInquire_11 ⟨Nat.zero_le _, Nat.zero_le _⟩) hS (fun q h => h.elim) (fun v11 H locs hp9 hz9 ho9 hS => ?_)
  have e11 : v11 = _ := hp9
  have hC := hC.same (fun q => ho9 q (fun h => h))
  refine lv_if_eq (tgt := 29) hx hb dX4_hearInquire_14 (by decide) (fun c_14 => ?_) (fun c_14 => ?_)
  · have h11 : ¬ (σ.1 1 i = 1 ∧ σ.1 2 i = t) := fun h => by rw [if_pos h] at e11; rw [e11] at c_14; exact absurd c_14 (by decide)
    have hfin : qC dd ga n k ad (q_inquire σ i j t) H := by rw [q_inquire, if_neg (fun h => h11 h.1)]; exact hC
    exact q_vret hx hb hr hlocks hS hfin dX4_hearInquire_29
  · have h11 : σ.1 1 i = 1 ∧ σ.1 2 i = t := Classical.byContradiction fun h => by rw [if_neg h] at e11; exact c_14 e11
    refine lv_aload hx hb dX4_hearInquire_17 (lv_at hl 0 rfl) ?_
    refine qr_get (ci := 0) (C := RX0) (T := TX0) (N := 5) hx hb hts hin0 hown hK (hC.ask i hi) rfl 2 (by decide) (hts (.fieldLink RX4 94 "QuorumLock$Asker" "votes" "I") (by decide +kernel)) rfl dX4_hearInquire_19 ?_
    refine lv_iload_n hx hb dX4_hearInquire_22 rfl (lv_at hl 3 rfl) ?_
    refine qc_i (va_runS (As := [.int (σ.1 3 i), .int (nI j)]) (rest := []) ⟨hx, hb, hml, hown, hts⟩ (c_X4_has l dd ga (σ.1 3 i) j) (va_cwS 2 hts gX4_hearInquire_X4_has rfl rfl rfl (by decide +kernel) ⟨Nat.le_of_ble_eq_true rfl, Nat.le_of_ble_eq_true rfl⟩) (qpreS hK trivial) rfl rfl hl.1 rfl (lv_room (Nat.le_of_ble_eq_true rfl)) dX4_hearInquire_23 ⟨Nat.zero_le _, Nat.zero_le _⟩) hS (fun q h => h.elim) (fun v23 H locs hp9 hz9 ho9 hS => ?_)
    have e23 : v23 = _ := hp9
    have hC := hC.same (fun q => ho9 q (fun h => h))
    refine lv_if_ne (tgt := 30) hx hb dX4_hearInquire_26 (by decide) (fun c_26 => ?_) (fun c_26 => ?_)
    · have h23 : q_has (σ.1 3 i) j = true := Classical.byContradiction fun h => by rw [if_neg h] at e23; exact c_26 e23
      refine lv_aload hx hb dX4_hearInquire_30 (lv_at hl 0 rfl) ?_
      refine qr_get (ci := 0) (C := RX0) (T := TX0) (N := 5) hx hb hts hin0 hown hK (hC.ask i hi) rfl 3 (by decide) (hts (.fieldLink RX4 120 "QuorumLock$Asker" "failures" "I") (by decide +kernel)) rfl dX4_hearInquire_32 ?_
      refine lv_if_eq (tgt := 47) hx hb dX4_hearInquire_35 (by decide) (fun c_35 => ?_) (fun c_35 => ?_)
      · refine lv_aload hx hb dX4_hearInquire_47 (lv_at hl 0 rfl) ?_
        refine lv_dup hx hb dX4_hearInquire_49 rfl ?_
        refine qr_get (ci := 0) (C := RX0) (T := TX0) (N := 5) hx hb hts hin0 hown hK (hC.ask i hi) rfl 4 (by decide) (hts (.fieldLink RX4 123 "QuorumLock$Asker" "inquiries" "I") (by decide +kernel)) rfl dX4_hearInquire_50 ?_
        refine lv_iconst (v := 1) hx hb dX4_hearInquire_53 (by decide) ?_
        refine lv_iload_n hx hb dX4_hearInquire_54 rfl (lv_at hl 3 rfl) ?_
        refine lv_ishl hx hb dX4_hearInquire_55 ?_
        refine lv_ior hx hb dX4_hearInquire_56 ?_
        refine qr_put (ci := 0) (C := RX0) (T := TX0) (N := 5) hx hb hts hin0 tyX0 tyX0_ok nmX0 hown hK (hC.ask i hi) hS (⟨10, i, qd.i (by decide) (by decide) hi, rfl⟩) rfl 4 (by decide) (hts (.fieldLink RX4 123 "QuorumLock$Asker" "inquiries" "I") (by decide +kernel)) rfl rfl rfl (Nat.le_of_ble_eq_true rfl) dX4_hearInquire_57 (fun H locs hz9 ho9 hat9 hS => ?_)
        have hC := hC.putAsk (σ' := s_tb σ 5 i (σ.1 5 i ||| q_bit j)) hL hi ho9 (by simpa [s_tb, q2, q_bit] using hat9) (fun f j h => by simp only [s_tb, q2]; repeat rw [if_neg (by omega)]) rfl
        have hfin : qC dd ga n k ad (q_inquire σ i j t) H := by rw [q_inquire, if_pos ⟨h11, h23⟩, if_neg (fun h => h c_35)]; exact hC
        exact q_vret hx hb hr hlocks hS hfin dX4_hearInquire_60
      · refine lv_aload_n hx hb dX4_hearInquire_38 rfl (lv_at hl 1 rfl) ?_
        refine lv_iload_n hx hb dX4_hearInquire_39 rfl (lv_at hl 2 rfl) ?_
        refine lv_iload_n hx hb dX4_hearInquire_40 rfl (lv_at hl 3 rfl) ?_
        refine qc_v (va_runV (As := [.int (nI i), .int (nI j)]) (rest := []) ⟨hx, hb, hml, hown, hts⟩ (c_X4_giveUp l dd ga n k ad σ hsq hL i j hi hj hroom) (cwV 2 hts gX4_hearInquire_X4_giveUp rfl rfl rfl (by decide +kernel) ⟨Nat.le_of_ble_eq_true rfl, Nat.le_of_ble_eq_true rfl⟩) (qpreV hK hC hC.self rfl) rfl rfl hl.1 rfl (lv_room (Nat.le_of_ble_eq_true rfl)) dX4_hearInquire_41 ⟨Nat.zero_le _, Nat.zero_le _⟩) hS (fun q h => h) (fun H locs hp9 hz9 ho9 hS => ?_)
        have hC := hp9
        have hfin : qC dd ga n k ad (q_inquire σ i j t) H := by rw [q_inquire, if_pos ⟨h11, h23⟩, if_pos c_35]; exact hC
        refine lv_goto (tgt := 60) hx hb dX4_hearInquire_44 (by decide) ?_
        exact q_vret hx hb hr hlocks hS hfin dX4_hearInquire_60
    · have h23 : ¬ q_has (σ.1 3 i) j = true := fun h => by rw [if_pos h] at e23; rw [e23] at c_26; exact absurd c_26 (by decide)
      have hfin : qC dd ga n k ad (q_inquire σ i j t) H := by rw [q_inquire, if_neg (fun h => h23 h.2)]; exact hC
      exact q_vret hx hb hr hlocks hS hfin dX4_hearInquire_29
