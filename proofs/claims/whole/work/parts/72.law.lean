/-! THE LAW -/
theorem qR0.kept {dd : va_G} {ga : Nat → ClassId} {n k : Nat} {ar : Nat → Nat} {ρ : Nat → Nat → Int32} {en : Int32} {H H1 : Heap} (h : qR0 dd ga n k ar ρ en H) (hO : ∀ a, a ≤ 16 → H1[ar a]? = H[ar a]?) : qR0 dd ga n k ar ρ en H1 := ⟨qa_kept h.1 (hO 0 (by decide)), fun a h1 h2 => qa_kept (h.2 a h1 h2) (hO a h2)⟩
theorem qR.kept {dd : va_G} {ga : Nat → ClassId} {n k : Nat} {ar : Nat → Nat} {σ : qSt} {H H1 : Heap} (h : qR dd ga n k ar σ H) (hO : ∀ a, a ≤ 16 → H1[ar a]? = H[ar a]?) : qR dd ga n k ar σ H1 := by obtain ⟨ρ, h1, h2⟩ := h; exact ⟨ρ, h1, h2.kept hO⟩
theorem qR.obj {dd : va_G} {ga : Nat → ClassId} {n k : Nat} {ar : Nat → Nat} {σ : qSt} {H : Heap} (h : qR dd ga n k ar σ H) : va_at dd vwCl (ar 0, .inr (5, [.int (nI k), .int (nI n), .ref (ar 1), .ref (ar 2), .ref (ar 3), .ref (ar 4), .ref (ar 5), .ref (ar 6), .ref (ar 7), .ref (ar 8), .ref (ar 9), .ref (ar 10), .ref (ar 11), .ref (ar 12), .ref (ar 13), .ref (ar 14), .ref (ar 15), .ref (ar 16), .int σ.2.2.2.2])) H := by obtain ⟨ρ, h1, h2⟩ := h; exact h2.self
theorem qC.kept {dd : va_G} {ga : Nat → ClassId} {n k : Nat} {ad : Nat → Nat → Nat} {σ : qSt} {H H1 : Heap} (h : qC dd ga n k ad σ H) (hO : ∀ a b, qd n a b → H1[ad a b]? = H[ad a b]?) : qC dd ga n k ad σ H1 := by
  have hz : ∀ a : Nat, a < 10 → H1[ad a 0]? = H[ad a 0]? := fun a ha => hO a 0 (qd.z ha)
  have hj : ∀ a j : Nat, 10 ≤ a → a < 15 → j < n → H1[ad a j]? = H[ad a j]? := fun a j h1 h2 h3 => hO a j (qd.i h1 h2 h3)
  exact ⟨qa_kept h.self (hz 0 (by decide)), qa_kept h.quo (hz 1 (by decide)), qa_kept h.clk (hz 2 (by decide)), qa_kept h.arA (hz 3 (by decide)), qa_kept h.arV (hz 4 (by decide)), h.wir.kept (hz 5 (by decide)) (hz 6 (by decide)) (hz 7 (by decide)) (hz 8 (by decide)) (hz 9 (by decide)), fun i hi => qa_kept (h.ask i hi) (hj 10 i (by decide) (by decide) hi), fun i hi => qa_kept (h.vot i hi) (hj 11 i (by decide) (by decide) hi), fun i hi => (h.row i hi).kept (hj 12 i (by decide) (by decide) hi) (hj 13 i (by decide) (by decide) hi) (hj 14 i (by decide) (by decide) hi)⟩
/-- what the law leans on: a property of states that every call keeps, with a store of steps -/
def qJok (n k : Nat) (J : Nat → qSt → Prop) : Prop :=
  (∀ c σ, J c σ → qCap n k σ ∧ qKd n σ ∧ (∀ i : Nat, i < n → σ.1 3 i &&& q_quo k i n = q_quo k i n → σ.1 3 i = q_quo k i n) ∧ (∀ i : Nat, i < n → q_hd (σ.1 3 i) = q_cnt (σ.1 3 i) n)) ∧
  (∀ c, c ≤ 300000 → J c q_init) ∧ (∀ c σ i, i < n → J (c + 1) σ → J c (q_request n k σ i).2) ∧ (∀ c σ i, i < n → J (c + 1) σ → J c (q_enter n k σ i).2) ∧ (∀ c σ i, i < n → J (c + 1) σ → J c (q_release n k σ i).2) ∧
  (∀ c σ f t, f < n → t < n → J (c + 1) σ → J c (q_deliver n σ f t).2) ∧ (∀ c d σ, d ≤ c → J c σ → J d σ)
theorem qJok.settle {n k : Nat} {J : Nat → qSt → Prop} (h : qJok n k J) : ∀ (a c d : Nat) (σ : qSt), J (c + a) σ → J c (q_settle n a d σ).2
  | 0, c, d, σ, hJ => hJ
  | a + 1, c, d, σ, hJ => by
    unfold q_settle
    have hff := q_lf_from (n := n) (σ := σ) n 0
    cases hfr : q_from n σ n 0 with
    | none => exact h.2.2.2.2.2.2 _ _ _ (by omega) hJ
    | some ft =>
      obtain ⟨f, t⟩ := ft
      have hb := hff.2 f t hfr
      exact qJok.settle h a c (d + 1) _ (h.2.2.2.2.2.1 _ _ f t (by omega) hb.2.2.2.1 hJ)
theorem q_len5 {L i : Nat} (hL : L ≤ 2561) (hi : i ≤ 3000) (h : ¬ nI L - 5 < nI i) : i + 5 ≤ L := by
  have h1 : (nI L - nI 5).toInt = (L : Int) - 5 := pk_sub_toInt (by omega) (by decide)
  have h2 := Int32.not_lt.mp h
  have h3 : (nI i).toInt ≤ (nI L - nI 5).toInt := Int32.le_iff_toInt_le.mp h2
  rw [h1, nI_toInt (by omega)] at h3
  omega
theorem q_len5b {L i : Nat} (hL : L ≤ 2561) (hi : i ≤ 3000) (h : nI L - 5 < nI i) : L < i + 5 := by
  have h1 : (nI L - nI 5).toInt = (L : Int) - 5 := pk_sub_toInt (by omega) (by decide)
  have h3 : (nI L - nI 5).toInt < (nI i).toInt := Int32.lt_iff_toInt_lt.mp h
  rw [h1, nI_toInt (by omega)] at h3
  omega
section QLAW
variable {p : Program} {l : Launch} {e : Env} {R : Room} {s : State} {m : MethodId} {args : Array Value} {below : List Frame} {meth : Method} {c : Code} {H : Heap} {locs : List Loc} {cells slots : Nat} {Q : State → Prop}
variable {cc : ByteArray} {pc : Nat} {ls : Array Slot} {rest : List Value} {A : Nat → Prop} {H0 : Heap}
theorem q_sld (hexec : p.tables.exec = Jvm.exec) (hb : c.code = cc) {b L : Nat} {xs : Nat → Int32} (hX : va_X b L xs s H0) (hbl : b < H0.size) (hbA : ¬ A b) (hS : va_S A H0 H locs) (j : Nat) (hj : j < L) (hL : L ≤ 2561) {x : Int32} (hx : x = nI j) (hdg : decode cc pc = .ok (.iaload, 1))
    (kk : W p l e R s m args below meth c H locs cells slots Q (F0 m (pc + 1) ls (.int (xs j) :: rest))) : W p l e R s m args below meth c H locs cells slots Q (F0 m pc ls (.int x :: .ref b :: rest)) := by
  subst hx
  refine va_sld hexec hb hX hbl hbA hS (vp_in_nI hj (by omega)) hdg ?_
  rw [nI_clamp (by omega)]
  exact kk
end QLAW
def qPcX (b L : Nat) (xs : Nat → Int32) : Array Value → State → Prop := va_Pc [.ref b, .int 0] (fun U => va_X b L xs U U.heap)
theorem qpreX {s : State} {H : Heap} {b L : Nat} {xs : Nat → Int32} (hX : va_X b L xs s H) : PreS s H (qPcX b L xs) [.ref b, .int 0] :=
  ⟨fun _ U _ _ q => ⟨q.1, va_X.moved (Vm.Alike.refl U.vm) q.2⟩, fun U hU hW => ⟨rfl, by show va_X b L xs U U.heap; rw [hU]; exact va_X.moved hW.alike hX⟩⟩
def q_x0 (L : Nat) (xs : Nat → Int32) : Int32 := if 0 < L then xs 0 else 0
set_option maxHeartbeats 4000000 in
set_option maxRecDepth 100000 in
/-- cell(script, 0) -/
theorem c_L_cell (l : Launch) (b L : Nat) (xs : Nat → Int32) (hL : L ≤ 2561) : Met l yL_cell wsL_cell ({ frames := 0, cells := 0, slots := 0, locals := 0 }) (qPcX b L xs) (qQi (fun v _ => v = q_x0 L xs) (fun _ => False)) 0 0 (fun _ => False) := by
  refine Met.ofW (cc := cL_cell) (maxL := 2) (ret := (some .int)) (by decide) rfl ?_
  intro p e s m args below meth c s₁ B hml hv
  obtain ⟨rfl, hX⟩ := hv
  have hx := B.exec
  have hb := B.bytes
  have hr := B.returns
  have hlocks := B.notSynchronized
  have hS : qS (fun _ => False) s.heap s.heap [] := qS.rf
  have hbl : b < s.heap.size := by obtain ⟨scr, h1, -⟩ := hX; exact (Array.getElem?_eq_some_iff.mp h1).1
  have hl := lv_entry ([.ref b, .int 0]) (n := 2) (Nat.le_of_ble_eq_true rfl)
  rw [lg_entry_eq]
  generalize (lg_sl ([.ref b, .int 0]) ++ List.replicate (2 - (lg_sl ([.ref b, .int 0])).length) Slot.unset).toArray = ls at hl ⊢
  refine lv_iload_n hx hb dL_cell_0 rfl (lv_at hl 1 rfl) ?_
  refine lv_aload_n hx hb dL_cell_1 rfl (lv_at hl 0 rfl) ?_
  refine va_slen hx hb hX hbl (fun h => h) hS.v dL_cell_2 ?_
  refine lv_icmp_ge (tgt := 12) hx hb dL_cell_3 (by decide) (fun c_3 => ?_) (fun c_3 => ?_)
  · have h0L : ¬ 0 < L := fun h => absurd c_3 (show ¬ nI L ≤ nI 0 from nI_ge h (by omega))
    refine lv_iconst (v := 0) hx hb dL_cell_12 (by decide) ?_
    exact q_iret hx hb hr hlocks hS (by rw [q_x0, if_neg h0L]) dL_cell_13
  · have h0L : 0 < L := Classical.byContradiction fun h => c_3 (by rw [show L = 0 by omega]; decide)
    refine lv_aload_n hx hb dL_cell_6 rfl (lv_at hl 0 rfl) ?_
    refine lv_iload_n hx hb dL_cell_7 rfl (lv_at hl 1 rfl) ?_
    refine q_sld hx hb hX hbl (fun h => h) hS.v 0 h0L hL rfl dL_cell_8 ?_
    refine lv_goto (tgt := 13) hx hb dL_cell_9 (by decide) ?_
    exact q_iret hx hb hr hlocks hS (by rw [q_x0, if_pos h0L]) dL_cell_13
set_option maxHeartbeats 8000000 in
set_option maxRecDepth 100000 in
/-- THE LAW'S LOOP: at its head both sides hold one state -/
theorem law_loop {p : Program} {l : Launch} {e : Env} {s : State} {m : MethodId} {below : List Frame} {meth : Method} {c : Code} {dd : va_G} {ga : Nat → ClassId} {b L : Nat} {xs : Nat → Int32} (hL : L ≤ 2561) (C0 : lw_At p s m meth c b L xs) (hK : qK dd ga s) {n k : Nat} {ad : Nat → Nat → Nat} {ar : Nat → Nat} (hsq : qSq n k) (hLc : qL n ad) (hLr : qLr ar) (hac : ∀ a d, qd n a d → s.heap.size ≤ ad a d) (har : ∀ a, a ≤ 16 → s.heap.size ≤ ar a) (hdis : ∀ a d z, qd n a d → z ≤ 16 → ad a d ≠ ar z) {J : Nat → qSt → Prop} (hJ : qJok n k J) :
    ∀ (c9 i9 : Nat) (σ : qSt) (H : Heap) (locs : List Loc) (ls : Array Slot), i9 ≤ 3000 → c9 ≤ 520 → L + 5 ≤ i9 + 5 * c9 → J (501 * c9) σ → qC dd ga n k ad σ H → qR dd ga n k ar σ H → va_S (fun q : Nat => s.heap.size ≤ q) s.heap H locs → lv_has ls 4 [(3, .int (nI i9)), (0, .ref b), (1, .ref (ad 0 0)), (2, .ref (ar 0))] → W p l e room_1 s m #[Value.ref b] below meth c H locs 600000 7302250 (lw_Z below #[Value.ref b] s) (F0 m 28 ls []) := by
  obtain ⟨hx, hb, hr, hml, hown, hts0, hX, hbl, hlocks, hgv⟩ := C0
  have hts := fun w h => hts0 w (wsL_law_in w h)
  have hb : c.code = cL_law := hb
  have hbA : ¬ (fun q : Nat => s.heap.size ≤ q) b := Nat.not_le.mpr hbl
  have hn16 := hsq.n.2
  have hA1 : ∀ q, qA n ad q → s.heap.size ≤ q := fun q h => by obtain ⟨a, d, h1, h2⟩ := h; rw [h2]; exact hac a d h1
  have hA2 : ∀ q, qAr ar q → s.heap.size ≤ q := fun q h => by obtain ⟨a, h1, h2⟩ := h; rw [h2]; exact har a h1
  intro c9
  induction c9 with
  | zero =>
    intro i9 σ H locs ls hi h520 hin hj hC hR hS hl
    refine lv_iload_n hx hb dL_law_28 rfl (lv_at hl 0 rfl) ?_
    refine lv_aload_n hx hb dL_law_29 rfl (lv_at hl 1 rfl) ?_
    refine va_slen hx hb hX hbl hbA hS dL_law_30 ?_
    refine lv_iconst (v := 5) hx hb dL_law_31 (by decide) ?_
    refine lv_isub hx hb dL_law_32 ?_
    refine lv_icmp_gt (tgt := 478) hx hb dL_law_33 (by decide) (fun c_33 => ?_) (fun c_33 => absurd (q_len5 hL hi c_33) (by omega))
    refine lv_iconst (v := 1) hx hb dL_law_478 (by decide) ?_
    refine va_forget (fun q hq => hS.2.2 q hq) ?_
    exact lw_ret hx hb hr hlocks dL_law_479
  | succ c9 ih =>
    intro i9 σ H locs ls hi h520 hin hj hC hR hS hl
    have hJ1 := hJ.1 _ _ hj
    have hJ5 : J (501 * c9 + 500 + 1) σ := by rw [show 501 * c9 + 500 + 1 = 501 * (c9 + 1) by omega]; exact hj
    have hmon := hJ.2.2.2.2.2.2
    refine lv_iload_n hx hb dL_law_28 rfl (lv_at hl 0 rfl) ?_
    refine lv_aload_n hx hb dL_law_29 rfl (lv_at hl 1 rfl) ?_
    refine va_slen hx hb hX hbl hbA hS dL_law_30 ?_
    refine lv_iconst (v := 5) hx hb dL_law_31 (by decide) ?_
    refine lv_isub hx hb dL_law_32 ?_
    refine lv_icmp_gt (tgt := 478) hx hb dL_law_33 (by decide) (fun c_33 => ?_) (fun c_33 => ?_)
    · refine lv_iconst (v := 1) hx hb dL_law_478 (by decide) ?_
      refine va_forget (fun q hq => hS.2.2 q hq) ?_
      exact lw_ret hx hb hr hlocks dL_law_479
    · have hi5 := q_len5 hL hi c_33
      refine lv_aload_n hx hb dL_law_36 rfl (lv_at hl 1 rfl) ?_
      refine lv_iload_n hx hb dL_law_37 rfl (lv_at hl 0 rfl) ?_
      refine q_sld hx hb hX hbl hbA hS (i9) (by omega) hL rfl dL_law_38 ?_
      refine lv_bipush (v := 15) hx hb dL_law_39 (by decide) ?_
      refine lv_iand hx hb dL_law_41 ?_
      obtain ⟨j, hj16, ej⟩ := pk_andE (xs i9) (m := 15) 4 (by decide)
      rw [ej]
      rcases (show j = 0 ∨ j = 1 ∨ j = 2 ∨ j = 3 ∨ j = 4 ∨ j = 5 ∨ j = 6 ∨ j = 7 ∨ j = 8 ∨ j = 9 ∨ j = 10 ∨ j = 11 ∨ j = 12 ∨ j = 13 ∨ j = 14 ∨ j = 15 by omega) with h | h | h | h | h | h | h | h | h | h | h | h | h | h | h | h <;> subst h
      · refine lv_tableIn (tgt := 112) hx hb dL_law_42 (by decide) (by decide) rfl (by decide) ?_
        obtain ⟨hcap, hkd, hent, hcnt⟩ := hJ1
        refine lv_aload_n hx hb dL_law_112 rfl (lv_at hl 2 rfl) ?_
        refine qcall_v (va_runV (As := []) (rest := []) ⟨hx, hb, hml, hown, hts⟩ (c_X4_init_ l dd ga n k ad σ hsq hLc ) (cwV 0 hts gL_law_X4_init_ rfl rfl rfl (by decide +kernel) ⟨Nat.le_of_ble_eq_true rfl, Nat.le_of_ble_eq_true rfl⟩) (qpreV hK hC hC.self rfl) rfl rfl hl.1 rfl (lv_room (Nat.le_of_ble_eq_true rfl)) dL_law_113 ⟨by show _ ≤ 600000; omega, by show _ ≤ 7302250; omega⟩) hS hA1 (fun H locs hp9 hz9 ho9 hS => ?_)
        have hC := hp9
        have hR := hR.kept (fun a ha => ho9 _ (fun h => by obtain ⟨a2, d2, h1, h2⟩ := h; exact hdis a2 d2 a h1 ha h2.symm))
        refine lv_aload_n hx hb dL_law_116 rfl (lv_at hl 3 rfl) ?_
        obtain ⟨ρ0, hRp0, hW0⟩ := hR
        refine qcall_v (va_runV (As := []) (rest := []) ⟨hx, hb, hml, hown, hts⟩ (c_X5_init_ l dd ga n k ar ρ0 σ.2.2.2.2 hsq hLr) (cwV 0 hts gL_law_X5_init_ rfl rfl rfl (by decide +kernel) ⟨Nat.le_of_ble_eq_true rfl, Nat.le_of_ble_eq_true rfl⟩) (qpreV hK hW0 hW0.self rfl) rfl rfl hl.1 rfl (lv_room (Nat.le_of_ble_eq_true rfl)) dL_law_117 ⟨by show _ ≤ 600000; omega, by show _ ≤ 7302250; omega⟩) hS hA2 (fun H locs hp9 hz9 ho9 hS => ?_)
        have hR := hp9
        have hC := hC.kept (fun a d hd => ho9 _ (fun h => by obtain ⟨z, h1, h2⟩ := h; exact hdis a d z hd h1 h2))
        refine lv_goto (tgt := 472) hx hb dL_law_120 (by decide) ?_
        refine lv_iinc (v := nI (i9 + 5)) (lv' := [(3, .int (nI (i9 + 5))), (0, .ref b), (1, .ref (ad 0 0)), (2, .ref (ar 0))]) hx hb dL_law_472 hl (k := 0) rfl (nI_add i9 5) (by decide) rfl (fun ls hl => ?_)
        refine lv_goto (tgt := 28) hx hb dL_law_475 (by decide) ?_
        exact ih (i9 + 5) (q_init) _ _ ls (by omega) (by omega) (by omega) (hJ.2.1 _ (by omega)) hC hR hS hl
      · refine lv_tableIn (tgt := 123) hx hb dL_law_42 (by decide) (by decide) rfl (by decide) ?_
        obtain ⟨hcap, hkd, hent, hcnt⟩ := hJ1
        refine lv_aload_n hx hb dL_law_123 rfl (lv_at hl 2 rfl) ?_
        refine lv_aload_n hx hb dL_law_124 rfl (lv_at hl 1 rfl) ?_
        refine lv_iload_n hx hb dL_law_125 rfl (lv_at hl 0 rfl) ?_
        refine lv_iconst (v := nI 1) hx hb dL_law_126 (by decide) ?_
        refine lv_iadd hx hb dL_law_127 ?_
        refine q_ti (y := nI (i9 + 1)) (nI_add _ _) ?_
        refine q_sld hx hb hX hbl hbA hS (i9 + 1) (by omega) hL rfl dL_law_128 ?_
        refine qcall_i (va_runV (As := [.int (xs (i9 + 1))]) (rest := []) ⟨hx, hb, hml, hown, hts⟩ (c_X4_request l dd ga n k ad σ hsq hLc (xs (i9 + 1)) hcap) (cwV 1 hts gL_law_X4_request rfl rfl rfl (by decide +kernel) ⟨Nat.le_of_ble_eq_true rfl, Nat.le_of_ble_eq_true rfl⟩) (qpreV hK hC hC.self rfl) rfl rfl hl.1 rfl (lv_room (Nat.le_of_ble_eq_true rfl)) dL_law_129 ⟨by show _ ≤ 600000; omega, by show _ ≤ 7302250; omega⟩) hS hA1 (fun vc H locs hp9 hz9 ho9 hS => ?_)
        obtain ⟨ec, hC⟩ := hp9
        have hR := hR.kept (fun a ha => ho9 _ (fun h => by obtain ⟨a2, d2, h1, h2⟩ := h; exact hdis a2 d2 a h1 ha h2.symm))
        refine lv_aload_n hx hb dL_law_132 rfl (lv_at hl 3 rfl) ?_
        refine lv_aload_n hx hb dL_law_133 rfl (lv_at hl 1 rfl) ?_
        refine lv_iload_n hx hb dL_law_134 rfl (lv_at hl 0 rfl) ?_
        refine lv_iconst (v := nI 1) hx hb dL_law_135 (by decide) ?_
        refine lv_iadd hx hb dL_law_136 ?_
        refine q_ti (y := nI (i9 + 1)) (nI_add _ _) ?_
        refine q_sld hx hb hX hbl hbA hS (i9 + 1) (by omega) hL rfl dL_law_137 ?_
        refine qcall_i (va_runV (As := [.int (xs (i9 + 1))]) (rest := [.int vc]) ⟨hx, hb, hml, hown, hts⟩ (c_X5_request l dd ga n k ar σ hsq hLr (xs (i9 + 1)) hcap) (cwV 1 hts gL_law_X5_request rfl rfl rfl (by decide +kernel) ⟨Nat.le_of_ble_eq_true rfl, Nat.le_of_ble_eq_true rfl⟩) (qpreV hK hR hR.obj rfl) rfl rfl hl.1 rfl (lv_room (Nat.le_of_ble_eq_true rfl)) dL_law_138 ⟨by show _ ≤ 600000; omega, by show _ ≤ 7302250; omega⟩) hS hA2 (fun vr H locs hp9 hz9 ho9 hS => ?_)
        obtain ⟨er, hR⟩ := hp9
        have hC := hC.kept (fun a d hd => ho9 _ (fun h => by obtain ⟨z, h1, h2⟩ := h; exact hdis a d z hd h1 h2))
        refine lv_icmp_eq (tgt := 472) hx hb dL_law_141 (by decide) (fun c_141 => ?_) (fun c_141 => absurd (by rw [ec, er]) c_141)
        refine lv_iinc (v := nI (i9 + 5)) (lv' := [(3, .int (nI (i9 + 5))), (0, .ref b), (1, .ref (ad 0 0)), (2, .ref (ar 0))]) hx hb dL_law_472 hl (k := 0) rfl (nI_add i9 5) (by decide) rfl (fun ls hl => ?_)
        refine lv_goto (tgt := 28) hx hb dL_law_475 (by decide) ?_
        exact ih (i9 + 5) ((q_requestI n k σ (xs (i9 + 1))).2) _ _ ls (by omega) (by omega) (by omega) (by unfold q_requestI; split; (exact hJ.2.2.1 _ _ _ (by rename_i h; rcases q_nodeC hn16 (xs (i9 + 1)) with h2 | h2; (obtain ⟨-, j, hj2, ej⟩ := h2; rw [ej, nI_clamp (by omega)]; exact hj2); (rw [h2] at h; cases h)) (hmon _ _ _ (by omega) hJ5)); exact hmon _ _ _ (by omega) hJ5) hC hR hS hl
      · refine lv_tableIn (tgt := 146) hx hb dL_law_42 (by decide) (by decide) rfl (by decide) ?_
        obtain ⟨hcap, hkd, hent, hcnt⟩ := hJ1
        refine lv_aload_n hx hb dL_law_146 rfl (lv_at hl 2 rfl) ?_
        refine lv_aload_n hx hb dL_law_147 rfl (lv_at hl 1 rfl) ?_
        refine lv_iload_n hx hb dL_law_148 rfl (lv_at hl 0 rfl) ?_
        refine lv_iconst (v := nI 1) hx hb dL_law_149 (by decide) ?_
        refine lv_iadd hx hb dL_law_150 ?_
        refine q_ti (y := nI (i9 + 1)) (nI_add _ _) ?_
        refine q_sld hx hb hX hbl hbA hS (i9 + 1) (by omega) hL rfl dL_law_151 ?_
        refine lv_aload_n hx hb dL_law_152 rfl (lv_at hl 1 rfl) ?_
        refine lv_iload_n hx hb dL_law_153 rfl (lv_at hl 0 rfl) ?_
        refine lv_iconst (v := nI 2) hx hb dL_law_154 (by decide) ?_
        refine lv_iadd hx hb dL_law_155 ?_
        refine q_ti (y := nI (i9 + 2)) (nI_add _ _) ?_
        refine q_sld hx hb hX hbl hbA hS (i9 + 2) (by omega) hL rfl dL_law_156 ?_
        refine qcall_i (va_runV (As := [.int (xs (i9 + 1)), .int (xs (i9 + 2))]) (rest := []) ⟨hx, hb, hml, hown, hts⟩ (c_X4_deliver l dd ga n k ad σ hsq hLc (xs (i9 + 1)) (xs (i9 + 2)) hcap) (cwV 2 hts gL_law_X4_deliver rfl rfl rfl (by decide +kernel) ⟨Nat.le_of_ble_eq_true rfl, Nat.le_of_ble_eq_true rfl⟩) (qpreV hK hC hC.self rfl) rfl rfl hl.1 rfl (lv_room (Nat.le_of_ble_eq_true rfl)) dL_law_157 ⟨by show _ ≤ 600000; omega, by show _ ≤ 7302250; omega⟩) hS hA1 (fun vc H locs hp9 hz9 ho9 hS => ?_)
        obtain ⟨ec, hC⟩ := hp9
        have hR := hR.kept (fun a ha => ho9 _ (fun h => by obtain ⟨a2, d2, h1, h2⟩ := h; exact hdis a2 d2 a h1 ha h2.symm))
        refine lv_aload_n hx hb dL_law_160 rfl (lv_at hl 3 rfl) ?_
        refine lv_aload_n hx hb dL_law_161 rfl (lv_at hl 1 rfl) ?_
        refine lv_iload_n hx hb dL_law_162 rfl (lv_at hl 0 rfl) ?_
        refine lv_iconst (v := nI 1) hx hb dL_law_163 (by decide) ?_
        refine lv_iadd hx hb dL_law_164 ?_
        refine q_ti (y := nI (i9 + 1)) (nI_add _ _) ?_
        refine q_sld hx hb hX hbl hbA hS (i9 + 1) (by omega) hL rfl dL_law_165 ?_
        refine lv_aload_n hx hb dL_law_166 rfl (lv_at hl 1 rfl) ?_
        refine lv_iload_n hx hb dL_law_167 rfl (lv_at hl 0 rfl) ?_
        refine lv_iconst (v := nI 2) hx hb dL_law_168 (by decide) ?_
        refine lv_iadd hx hb dL_law_169 ?_
        refine q_ti (y := nI (i9 + 2)) (nI_add _ _) ?_
        refine q_sld hx hb hX hbl hbA hS (i9 + 2) (by omega) hL rfl dL_law_170 ?_
        refine qcall_i (va_runV (As := [.int (xs (i9 + 1)), .int (xs (i9 + 2))]) (rest := [.int vc]) ⟨hx, hb, hml, hown, hts⟩ (c_X5_deliver l dd ga n k ar σ hsq hLr (xs (i9 + 1)) (xs (i9 + 2)) hcap hkd) (cwV 2 hts gL_law_X5_deliver rfl rfl rfl (by decide +kernel) ⟨Nat.le_of_ble_eq_true rfl, Nat.le_of_ble_eq_true rfl⟩) (qpreV hK hR hR.obj rfl) rfl rfl hl.1 rfl (lv_room (Nat.le_of_ble_eq_true rfl)) dL_law_171 ⟨by show _ ≤ 600000; omega, by show _ ≤ 7302250; omega⟩) hS hA2 (fun vr H locs hp9 hz9 ho9 hS => ?_)
        obtain ⟨er, hR⟩ := hp9
        have hC := hC.kept (fun a d hd => ho9 _ (fun h => by obtain ⟨z, h1, h2⟩ := h; exact hdis a d z hd h1 h2))
        refine lv_icmp_eq (tgt := 472) hx hb dL_law_174 (by decide) (fun c_174 => ?_) (fun c_174 => absurd (by rw [ec, er]) c_174)
        refine lv_iinc (v := nI (i9 + 5)) (lv' := [(3, .int (nI (i9 + 5))), (0, .ref b), (1, .ref (ad 0 0)), (2, .ref (ar 0))]) hx hb dL_law_472 hl (k := 0) rfl (nI_add i9 5) (by decide) rfl (fun ls hl => ?_)
        refine lv_goto (tgt := 28) hx hb dL_law_475 (by decide) ?_
        exact ih (i9 + 5) ((q_deliverI n σ (xs (i9 + 1)) (xs (i9 + 2))).2) _ _ ls (by omega) (by omega) (by omega) (by unfold q_deliverI; split; (rename_i h; exact hJ.2.2.2.2.2.1 _ _ _ _ (by rcases q_nodeC hn16 (xs (i9 + 1)) with h2 | h2; (obtain ⟨-, j, hj2, ej⟩ := h2; rw [ej, nI_clamp (by omega)]; exact hj2); (rw [h2] at h; cases h.1)) (by rcases q_nodeC hn16 (xs (i9 + 2)) with h2 | h2; (obtain ⟨-, j, hj2, ej⟩ := h2; rw [ej, nI_clamp (by omega)]; exact hj2); (rw [h2] at h; cases h.2)) (hmon _ _ _ (by omega) hJ5)); exact hmon _ _ _ (by omega) hJ5) hC hR hS hl
      · refine lv_tableIn (tgt := 179) hx hb dL_law_42 (by decide) (by decide) rfl (by decide) ?_
        obtain ⟨hcap, hkd, hent, hcnt⟩ := hJ1
        refine lv_aload_n hx hb dL_law_179 rfl (lv_at hl 2 rfl) ?_
        refine lv_aload_n hx hb dL_law_180 rfl (lv_at hl 1 rfl) ?_
        refine lv_iload_n hx hb dL_law_181 rfl (lv_at hl 0 rfl) ?_
        refine lv_iconst (v := nI 1) hx hb dL_law_182 (by decide) ?_
        refine lv_iadd hx hb dL_law_183 ?_
        refine q_ti (y := nI (i9 + 1)) (nI_add _ _) ?_
        refine q_sld hx hb hX hbl hbA hS (i9 + 1) (by omega) hL rfl dL_law_184 ?_
        refine qcall_i (va_runV (As := [.int (xs (i9 + 1))]) (rest := []) ⟨hx, hb, hml, hown, hts⟩ (c_X4_enter l dd ga n k ad σ hsq hLc (xs (i9 + 1)) hent) (cwV 1 hts gL_law_X4_enter rfl rfl rfl (by decide +kernel) ⟨Nat.le_of_ble_eq_true rfl, Nat.le_of_ble_eq_true rfl⟩) (qpreV hK hC hC.self rfl) rfl rfl hl.1 rfl (lv_room (Nat.le_of_ble_eq_true rfl)) dL_law_185 ⟨by show _ ≤ 600000; omega, by show _ ≤ 7302250; omega⟩) hS hA1 (fun vc H locs hp9 hz9 ho9 hS => ?_)
        obtain ⟨ec, hC⟩ := hp9
        have hR := hR.kept (fun a ha => ho9 _ (fun h => by obtain ⟨a2, d2, h1, h2⟩ := h; exact hdis a2 d2 a h1 ha h2.symm))
        refine lv_aload_n hx hb dL_law_188 rfl (lv_at hl 3 rfl) ?_
        refine lv_aload_n hx hb dL_law_189 rfl (lv_at hl 1 rfl) ?_
        refine lv_iload_n hx hb dL_law_190 rfl (lv_at hl 0 rfl) ?_
        refine lv_iconst (v := nI 1) hx hb dL_law_191 (by decide) ?_
        refine lv_iadd hx hb dL_law_192 ?_
        refine q_ti (y := nI (i9 + 1)) (nI_add _ _) ?_
        refine q_sld hx hb hX hbl hbA hS (i9 + 1) (by omega) hL rfl dL_law_193 ?_
        refine qcall_i (va_runV (As := [.int (xs (i9 + 1))]) (rest := [.int vc]) ⟨hx, hb, hml, hown, hts⟩ (c_X5_enter l dd ga n k ar σ hsq hLr (xs (i9 + 1))) (cwV 1 hts gL_law_X5_enter rfl rfl rfl (by decide +kernel) ⟨Nat.le_of_ble_eq_true rfl, Nat.le_of_ble_eq_true rfl⟩) (qpreV hK hR hR.obj rfl) rfl rfl hl.1 rfl (lv_room (Nat.le_of_ble_eq_true rfl)) dL_law_194 ⟨by show _ ≤ 600000; omega, by show _ ≤ 7302250; omega⟩) hS hA2 (fun vr H locs hp9 hz9 ho9 hS => ?_)
        obtain ⟨er, hR⟩ := hp9
        have hC := hC.kept (fun a d hd => ho9 _ (fun h => by obtain ⟨z, h1, h2⟩ := h; exact hdis a d z hd h1 h2))
        refine lv_icmp_eq (tgt := 472) hx hb dL_law_197 (by decide) (fun c_197 => ?_) (fun c_197 => absurd (by rw [ec, er]) c_197)
        refine lv_iinc (v := nI (i9 + 5)) (lv' := [(3, .int (nI (i9 + 5))), (0, .ref b), (1, .ref (ad 0 0)), (2, .ref (ar 0))]) hx hb dL_law_472 hl (k := 0) rfl (nI_add i9 5) (by decide) rfl (fun ls hl => ?_)
        refine lv_goto (tgt := 28) hx hb dL_law_475 (by decide) ?_
        exact ih (i9 + 5) ((q_enterI n k σ (xs (i9 + 1))).2) _ _ ls (by omega) (by omega) (by omega) (by unfold q_enterI; split; (exact hJ.2.2.2.1 _ _ _ (by rename_i h; rcases q_nodeC hn16 (xs (i9 + 1)) with h2 | h2; (obtain ⟨-, j, hj2, ej⟩ := h2; rw [ej, nI_clamp (by omega)]; exact hj2); (rw [h2] at h; cases h)) (hmon _ _ _ (by omega) hJ5)); exact hmon _ _ _ (by omega) hJ5) hC hR hS hl
      · refine lv_tableIn (tgt := 202) hx hb dL_law_42 (by decide) (by decide) rfl (by decide) ?_
        obtain ⟨hcap, hkd, hent, hcnt⟩ := hJ1
        refine lv_aload_n hx hb dL_law_202 rfl (lv_at hl 2 rfl) ?_
        refine lv_aload_n hx hb dL_law_203 rfl (lv_at hl 1 rfl) ?_
        refine lv_iload_n hx hb dL_law_204 rfl (lv_at hl 0 rfl) ?_
        refine lv_iconst (v := nI 1) hx hb dL_law_205 (by decide) ?_
        refine lv_iadd hx hb dL_law_206 ?_
        refine q_ti (y := nI (i9 + 1)) (nI_add _ _) ?_
        refine q_sld hx hb hX hbl hbA hS (i9 + 1) (by omega) hL rfl dL_law_207 ?_
        refine qcall_i (va_runV (As := [.int (xs (i9 + 1))]) (rest := []) ⟨hx, hb, hml, hown, hts⟩ (c_X4_release l dd ga n k ad σ hsq hLc (xs (i9 + 1)) hcap) (cwV 1 hts gL_law_X4_release rfl rfl rfl (by decide +kernel) ⟨Nat.le_of_ble_eq_true rfl, Nat.le_of_ble_eq_true rfl⟩) (qpreV hK hC hC.self rfl) rfl rfl hl.1 rfl (lv_room (Nat.le_of_ble_eq_true rfl)) dL_law_208 ⟨by show _ ≤ 600000; omega, by show _ ≤ 7302250; omega⟩) hS hA1 (fun vc H locs hp9 hz9 ho9 hS => ?_)
        obtain ⟨ec, hC⟩ := hp9
        have hR := hR.kept (fun a ha => ho9 _ (fun h => by obtain ⟨a2, d2, h1, h2⟩ := h; exact hdis a2 d2 a h1 ha h2.symm))
        refine lv_aload_n hx hb dL_law_211 rfl (lv_at hl 3 rfl) ?_
        refine lv_aload_n hx hb dL_law_212 rfl (lv_at hl 1 rfl) ?_
        refine lv_iload_n hx hb dL_law_213 rfl (lv_at hl 0 rfl) ?_
        refine lv_iconst (v := nI 1) hx hb dL_law_214 (by decide) ?_
        refine lv_iadd hx hb dL_law_215 ?_
        refine q_ti (y := nI (i9 + 1)) (nI_add _ _) ?_
        refine q_sld hx hb hX hbl hbA hS (i9 + 1) (by omega) hL rfl dL_law_216 ?_
        refine qcall_i (va_runV (As := [.int (xs (i9 + 1))]) (rest := [.int vc]) ⟨hx, hb, hml, hown, hts⟩ (c_X5_release l dd ga n k ar σ hsq hLr (xs (i9 + 1)) hcap) (cwV 1 hts gL_law_X5_release rfl rfl rfl (by decide +kernel) ⟨Nat.le_of_ble_eq_true rfl, Nat.le_of_ble_eq_true rfl⟩) (qpreV hK hR hR.obj rfl) rfl rfl hl.1 rfl (lv_room (Nat.le_of_ble_eq_true rfl)) dL_law_217 ⟨by show _ ≤ 600000; omega, by show _ ≤ 7302250; omega⟩) hS hA2 (fun vr H locs hp9 hz9 ho9 hS => ?_)
        obtain ⟨er, hR⟩ := hp9
        have hC := hC.kept (fun a d hd => ho9 _ (fun h => by obtain ⟨z, h1, h2⟩ := h; exact hdis a d z hd h1 h2))
        refine lv_icmp_eq (tgt := 472) hx hb dL_law_220 (by decide) (fun c_220 => ?_) (fun c_220 => absurd (by rw [ec, er]) c_220)
        refine lv_iinc (v := nI (i9 + 5)) (lv' := [(3, .int (nI (i9 + 5))), (0, .ref b), (1, .ref (ad 0 0)), (2, .ref (ar 0))]) hx hb dL_law_472 hl (k := 0) rfl (nI_add i9 5) (by decide) rfl (fun ls hl => ?_)
        refine lv_goto (tgt := 28) hx hb dL_law_475 (by decide) ?_
        exact ih (i9 + 5) ((q_releaseI n k σ (xs (i9 + 1))).2) _ _ ls (by omega) (by omega) (by omega) (by unfold q_releaseI; split; (exact hJ.2.2.2.2.1 _ _ _ (by rename_i h; rcases q_nodeC hn16 (xs (i9 + 1)) with h2 | h2; (obtain ⟨-, j, hj2, ej⟩ := h2; rw [ej, nI_clamp (by omega)]; exact hj2); (rw [h2] at h; cases h)) (hmon _ _ _ (by omega) hJ5)); exact hmon _ _ _ (by omega) hJ5) hC hR hS hl
      · refine lv_tableIn (tgt := 225) hx hb dL_law_42 (by decide) (by decide) rfl (by decide) ?_
        obtain ⟨hcap, hkd, hent, hcnt⟩ := hJ1
        refine lv_aload_n hx hb dL_law_225 rfl (lv_at hl 2 rfl) ?_
        refine qcall_i (va_runV (As := []) (rest := []) ⟨hx, hb, hml, hown, hts⟩ (c_X4_holder l dd ga n k ad σ hsq hLc ) (cwV 0 hts gL_law_X4_holder rfl rfl rfl (by decide +kernel) ⟨Nat.le_of_ble_eq_true rfl, Nat.le_of_ble_eq_true rfl⟩) (qpreV hK hC hC.self rfl) rfl rfl hl.1 rfl (lv_room (Nat.le_of_ble_eq_true rfl)) dL_law_226 ⟨by show _ ≤ 600000; omega, by show _ ≤ 7302250; omega⟩) hS hA1 (fun vc H locs hp9 hz9 ho9 hS => ?_)
        obtain ⟨ec, hC⟩ := hp9
        have hR := hR.kept (fun a ha => ho9 _ (fun h => by obtain ⟨a2, d2, h1, h2⟩ := h; exact hdis a2 d2 a h1 ha h2.symm))
        refine lv_aload_n hx hb dL_law_229 rfl (lv_at hl 3 rfl) ?_
        refine qcall_i (va_runV (As := []) (rest := [.int vc]) ⟨hx, hb, hml, hown, hts⟩ (c_X5_holder l dd ga n k ar σ hsq hLr ) (cwV 0 hts gL_law_X5_holder rfl rfl rfl (by decide +kernel) ⟨Nat.le_of_ble_eq_true rfl, Nat.le_of_ble_eq_true rfl⟩) (qpreV hK hR hR.obj rfl) rfl rfl hl.1 rfl (lv_room (Nat.le_of_ble_eq_true rfl)) dL_law_230 ⟨by show _ ≤ 600000; omega, by show _ ≤ 7302250; omega⟩) hS hA2 (fun vr H locs hp9 hz9 ho9 hS => ?_)
        obtain ⟨er, hR⟩ := hp9
        have hC := hC.kept (fun a d hd => ho9 _ (fun h => by obtain ⟨z, h1, h2⟩ := h; exact hdis a d z hd h1 h2))
        refine lv_icmp_eq (tgt := 472) hx hb dL_law_233 (by decide) (fun c_233 => ?_) (fun c_233 => absurd (by rw [ec, er]) c_233)
        refine lv_iinc (v := nI (i9 + 5)) (lv' := [(3, .int (nI (i9 + 5))), (0, .ref b), (1, .ref (ad 0 0)), (2, .ref (ar 0))]) hx hb dL_law_472 hl (k := 0) rfl (nI_add i9 5) (by decide) rfl (fun ls hl => ?_)
        refine lv_goto (tgt := 28) hx hb dL_law_475 (by decide) ?_
        exact ih (i9 + 5) (σ) _ _ ls (by omega) (by omega) (by omega) (hmon _ _ _ (by omega) hJ5) hC hR hS hl
      · refine lv_tableIn (tgt := 238) hx hb dL_law_42 (by decide) (by decide) rfl (by decide) ?_
        obtain ⟨hcap, hkd, hent, hcnt⟩ := hJ1
        refine lv_aload_n hx hb dL_law_238 rfl (lv_at hl 2 rfl) ?_
        refine lv_aload_n hx hb dL_law_239 rfl (lv_at hl 1 rfl) ?_
        refine lv_iload_n hx hb dL_law_240 rfl (lv_at hl 0 rfl) ?_
        refine lv_iconst (v := nI 1) hx hb dL_law_241 (by decide) ?_
        refine lv_iadd hx hb dL_law_242 ?_
        refine q_ti (y := nI (i9 + 1)) (nI_add _ _) ?_
        refine q_sld hx hb hX hbl hbA hS (i9 + 1) (by omega) hL rfl dL_law_243 ?_
        refine qcall_i (va_runV (As := [.int (xs (i9 + 1))]) (rest := []) ⟨hx, hb, hml, hown, hts⟩ (c_X4_votesOf l dd ga n k ad σ hsq hLc (xs (i9 + 1))) (cwV 1 hts gL_law_X4_votesOf rfl rfl rfl (by decide +kernel) ⟨Nat.le_of_ble_eq_true rfl, Nat.le_of_ble_eq_true rfl⟩) (qpreV hK hC hC.self rfl) rfl rfl hl.1 rfl (lv_room (Nat.le_of_ble_eq_true rfl)) dL_law_244 ⟨by show _ ≤ 600000; omega, by show _ ≤ 7302250; omega⟩) hS hA1 (fun vc H locs hp9 hz9 ho9 hS => ?_)
        obtain ⟨ec, hC⟩ := hp9
        have hR := hR.kept (fun a ha => ho9 _ (fun h => by obtain ⟨a2, d2, h1, h2⟩ := h; exact hdis a2 d2 a h1 ha h2.symm))
        refine lv_aload_n hx hb dL_law_247 rfl (lv_at hl 3 rfl) ?_
        refine lv_aload_n hx hb dL_law_248 rfl (lv_at hl 1 rfl) ?_
        refine lv_iload_n hx hb dL_law_249 rfl (lv_at hl 0 rfl) ?_
        refine lv_iconst (v := nI 1) hx hb dL_law_250 (by decide) ?_
        refine lv_iadd hx hb dL_law_251 ?_
        refine q_ti (y := nI (i9 + 1)) (nI_add _ _) ?_
        refine q_sld hx hb hX hbl hbA hS (i9 + 1) (by omega) hL rfl dL_law_252 ?_
        refine qcall_i (va_runV (As := [.int (xs (i9 + 1))]) (rest := [.int vc]) ⟨hx, hb, hml, hown, hts⟩ (c_X5_votesOf l dd ga n k ar σ hsq hLr (xs (i9 + 1))) (cwV 1 hts gL_law_X5_votesOf rfl rfl rfl (by decide +kernel) ⟨Nat.le_of_ble_eq_true rfl, Nat.le_of_ble_eq_true rfl⟩) (qpreV hK hR hR.obj rfl) rfl rfl hl.1 rfl (lv_room (Nat.le_of_ble_eq_true rfl)) dL_law_253 ⟨by show _ ≤ 600000; omega, by show _ ≤ 7302250; omega⟩) hS hA2 (fun vr H locs hp9 hz9 ho9 hS => ?_)
        obtain ⟨er, hR⟩ := hp9
        have hC := hC.kept (fun a d hd => ho9 _ (fun h => by obtain ⟨z, h1, h2⟩ := h; exact hdis a d z hd h1 h2))
        refine lv_icmp_eq (tgt := 472) hx hb dL_law_256 (by decide) (fun c_256 => ?_) (fun c_256 => absurd (by rw [ec, er]; unfold q_votesI q_votesJ; split; (rename_i h; refine hcnt _ ?_; rcases q_nodeC hn16 (xs (i9 + 1)) with h2 | h2; (obtain ⟨-, j, hj2, ej⟩ := h2; rw [ej, nI_clamp (by omega)]; exact hj2); (rw [h2] at h; cases h)); rfl) c_256)
        refine lv_iinc (v := nI (i9 + 5)) (lv' := [(3, .int (nI (i9 + 5))), (0, .ref b), (1, .ref (ad 0 0)), (2, .ref (ar 0))]) hx hb dL_law_472 hl (k := 0) rfl (nI_add i9 5) (by decide) rfl (fun ls hl => ?_)
        refine lv_goto (tgt := 28) hx hb dL_law_475 (by decide) ?_
        exact ih (i9 + 5) (σ) _ _ ls (by omega) (by omega) (by omega) (hmon _ _ _ (by omega) hJ5) hC hR hS hl
      · refine lv_tableIn (tgt := 261) hx hb dL_law_42 (by decide) (by decide) rfl (by decide) ?_
        obtain ⟨hcap, hkd, hent, hcnt⟩ := hJ1
        refine lv_aload_n hx hb dL_law_261 rfl (lv_at hl 2 rfl) ?_
        refine lv_aload_n hx hb dL_law_262 rfl (lv_at hl 1 rfl) ?_
        refine lv_iload_n hx hb dL_law_263 rfl (lv_at hl 0 rfl) ?_
        refine lv_iconst (v := nI 1) hx hb dL_law_264 (by decide) ?_
        refine lv_iadd hx hb dL_law_265 ?_
        refine q_ti (y := nI (i9 + 1)) (nI_add _ _) ?_
        refine q_sld hx hb hX hbl hbA hS (i9 + 1) (by omega) hL rfl dL_law_266 ?_
        refine qcall_i (va_runV (As := [.int (xs (i9 + 1))]) (rest := []) ⟨hx, hb, hml, hown, hts⟩ (c_X4_lockedFor l dd ga n k ad σ hsq hLc (xs (i9 + 1))) (cwV 1 hts gL_law_X4_lockedFor rfl rfl rfl (by decide +kernel) ⟨Nat.le_of_ble_eq_true rfl, Nat.le_of_ble_eq_true rfl⟩) (qpreV hK hC hC.self rfl) rfl rfl hl.1 rfl (lv_room (Nat.le_of_ble_eq_true rfl)) dL_law_267 ⟨by show _ ≤ 600000; omega, by show _ ≤ 7302250; omega⟩) hS hA1 (fun vc H locs hp9 hz9 ho9 hS => ?_)
        obtain ⟨ec, hC⟩ := hp9
        have hR := hR.kept (fun a ha => ho9 _ (fun h => by obtain ⟨a2, d2, h1, h2⟩ := h; exact hdis a2 d2 a h1 ha h2.symm))
        refine lv_aload_n hx hb dL_law_270 rfl (lv_at hl 3 rfl) ?_
        refine lv_aload_n hx hb dL_law_271 rfl (lv_at hl 1 rfl) ?_
        refine lv_iload_n hx hb dL_law_272 rfl (lv_at hl 0 rfl) ?_
        refine lv_iconst (v := nI 1) hx hb dL_law_273 (by decide) ?_
        refine lv_iadd hx hb dL_law_274 ?_
        refine q_ti (y := nI (i9 + 1)) (nI_add _ _) ?_
        refine q_sld hx hb hX hbl hbA hS (i9 + 1) (by omega) hL rfl dL_law_275 ?_
        refine qcall_i (va_runV (As := [.int (xs (i9 + 1))]) (rest := [.int vc]) ⟨hx, hb, hml, hown, hts⟩ (c_X5_lockedFor l dd ga n k ar σ hsq hLr (xs (i9 + 1))) (cwV 1 hts gL_law_X5_lockedFor rfl rfl rfl (by decide +kernel) ⟨Nat.le_of_ble_eq_true rfl, Nat.le_of_ble_eq_true rfl⟩) (qpreV hK hR hR.obj rfl) rfl rfl hl.1 rfl (lv_room (Nat.le_of_ble_eq_true rfl)) dL_law_276 ⟨by show _ ≤ 600000; omega, by show _ ≤ 7302250; omega⟩) hS hA2 (fun vr H locs hp9 hz9 ho9 hS => ?_)
        obtain ⟨er, hR⟩ := hp9
        have hC := hC.kept (fun a d hd => ho9 _ (fun h => by obtain ⟨z, h1, h2⟩ := h; exact hdis a d z hd h1 h2))
        refine lv_icmp_eq (tgt := 472) hx hb dL_law_279 (by decide) (fun c_279 => ?_) (fun c_279 => absurd (by rw [ec, er]) c_279)
        refine lv_iinc (v := nI (i9 + 5)) (lv' := [(3, .int (nI (i9 + 5))), (0, .ref b), (1, .ref (ad 0 0)), (2, .ref (ar 0))]) hx hb dL_law_472 hl (k := 0) rfl (nI_add i9 5) (by decide) rfl (fun ls hl => ?_)
        refine lv_goto (tgt := 28) hx hb dL_law_475 (by decide) ?_
        exact ih (i9 + 5) (σ) _ _ ls (by omega) (by omega) (by omega) (hmon _ _ _ (by omega) hJ5) hC hR hS hl
      · refine lv_tableIn (tgt := 284) hx hb dL_law_42 (by decide) (by decide) rfl (by decide) ?_
        obtain ⟨hcap, hkd, hent, hcnt⟩ := hJ1
        refine lv_aload_n hx hb dL_law_284 rfl (lv_at hl 2 rfl) ?_
        refine lv_aload_n hx hb dL_law_285 rfl (lv_at hl 1 rfl) ?_
        refine lv_iload_n hx hb dL_law_286 rfl (lv_at hl 0 rfl) ?_
        refine lv_iconst (v := nI 1) hx hb dL_law_287 (by decide) ?_
        refine lv_iadd hx hb dL_law_288 ?_
        refine q_ti (y := nI (i9 + 1)) (nI_add _ _) ?_
        refine q_sld hx hb hX hbl hbA hS (i9 + 1) (by omega) hL rfl dL_law_289 ?_
        refine qcall_i (va_runV (As := [.int (xs (i9 + 1))]) (rest := []) ⟨hx, hb, hml, hown, hts⟩ (c_X4_settle l dd ga n k ad σ hsq hLc (xs (i9 + 1)) (fun c τ => J (c + 501 * c9) τ) (fun c τ h => (hJ.1 _ _ h).1) (fun c τ f t hf ht h => hJ.2.2.2.2.2.1 _ τ f t hf ht (by rw [show c + 501 * c9 + 1 = c + 1 + 501 * c9 by omega]; exact h)) (hmon _ _ _ (by omega) hJ5) (fun c d τ h1 h2 => hmon _ _ _ (by omega) h2)) (cwV 1 hts gL_law_X4_settle rfl rfl rfl (by decide +kernel) ⟨Nat.le_of_ble_eq_true rfl, Nat.le_of_ble_eq_true rfl⟩) (qpreV hK hC hC.self rfl) rfl rfl hl.1 rfl (lv_room (Nat.le_of_ble_eq_true rfl)) dL_law_290 ⟨by show _ ≤ 600000; omega, by show _ ≤ 7302250; omega⟩) hS hA1 (fun vc H locs hp9 hz9 ho9 hS => ?_)
        obtain ⟨ec, hC⟩ := hp9
        have hR := hR.kept (fun a ha => ho9 _ (fun h => by obtain ⟨a2, d2, h1, h2⟩ := h; exact hdis a2 d2 a h1 ha h2.symm))
        refine lv_aload_n hx hb dL_law_293 rfl (lv_at hl 3 rfl) ?_
        refine lv_aload_n hx hb dL_law_294 rfl (lv_at hl 1 rfl) ?_
        refine lv_iload_n hx hb dL_law_295 rfl (lv_at hl 0 rfl) ?_
        refine lv_iconst (v := nI 1) hx hb dL_law_296 (by decide) ?_
        refine lv_iadd hx hb dL_law_297 ?_
        refine q_ti (y := nI (i9 + 1)) (nI_add _ _) ?_
        refine q_sld hx hb hX hbl hbA hS (i9 + 1) (by omega) hL rfl dL_law_298 ?_
        refine qcall_i (va_runV (As := [.int (xs (i9 + 1))]) (rest := [.int vc]) ⟨hx, hb, hml, hown, hts⟩ (c_X5_settle l dd ga n k ar σ hsq hLr (xs (i9 + 1)) (fun c τ => J (c + 501 * c9) τ) (fun c τ h => ⟨(hJ.1 _ _ h).1, (hJ.1 _ _ h).2.1⟩) (fun c τ f t hf ht h => hJ.2.2.2.2.2.1 _ τ f t hf ht (by rw [show c + 501 * c9 + 1 = c + 1 + 501 * c9 by omega]; exact h)) (hmon _ _ _ (by omega) hJ5) (fun c d τ h1 h2 => hmon _ _ _ (by omega) h2)) (cwV 1 hts gL_law_X5_settle rfl rfl rfl (by decide +kernel) ⟨Nat.le_of_ble_eq_true rfl, Nat.le_of_ble_eq_true rfl⟩) (qpreV hK hR hR.obj rfl) rfl rfl hl.1 rfl (lv_room (Nat.le_of_ble_eq_true rfl)) dL_law_299 ⟨by show _ ≤ 600000; omega, by show _ ≤ 7302250; omega⟩) hS hA2 (fun vr H locs hp9 hz9 ho9 hS => ?_)
        obtain ⟨er, hR⟩ := hp9
        have hC := hC.kept (fun a d hd => ho9 _ (fun h => by obtain ⟨z, h1, h2⟩ := h; exact hdis a d z hd h1 h2))
        refine lv_icmp_eq (tgt := 472) hx hb dL_law_302 (by decide) (fun c_302 => ?_) (fun c_302 => absurd (by rw [ec, er]) c_302)
        refine lv_iinc (v := nI (i9 + 5)) (lv' := [(3, .int (nI (i9 + 5))), (0, .ref b), (1, .ref (ad 0 0)), (2, .ref (ar 0))]) hx hb dL_law_472 hl (k := 0) rfl (nI_add i9 5) (by decide) rfl (fun ls hl => ?_)
        refine lv_goto (tgt := 28) hx hb dL_law_475 (by decide) ?_
        exact ih (i9 + 5) ((q_settleI n σ (xs (i9 + 1))).2) _ _ ls (by omega) (by omega) (by omega) (by unfold q_settleI; split; (exact hmon _ _ _ (by omega) hJ5); rename_i h; obtain ⟨j, hj2, ej⟩ : ∃ j : Nat, j ≤ 500 ∧ (xs (i9 + 1)) = nI j := nI_of2 (M := 500) (by decide) (fun h2 => h (Or.inl (Int32.lt_trans h2 (by decide)))) (Int32.not_lt.mp (fun h2 => h (Or.inr h2))); rw [ej, nI_clamp (by omega)]; exact hJ.settle j _ 0 σ (hmon _ _ _ (by omega) hJ5)) hC hR hS hl
      · refine lv_tableIn (tgt := 307) hx hb dL_law_42 (by decide) (by decide) rfl (by decide) ?_
        obtain ⟨hcap, hkd, hent, hcnt⟩ := hJ1
        refine lv_aload_n hx hb dL_law_307 rfl (lv_at hl 2 rfl) ?_
        refine lv_aload_n hx hb dL_law_308 rfl (lv_at hl 1 rfl) ?_
        refine lv_iload_n hx hb dL_law_309 rfl (lv_at hl 0 rfl) ?_
        refine lv_iconst (v := nI 1) hx hb dL_law_310 (by decide) ?_
        refine lv_iadd hx hb dL_law_311 ?_
        refine q_ti (y := nI (i9 + 1)) (nI_add _ _) ?_
        refine q_sld hx hb hX hbl hbA hS (i9 + 1) (by omega) hL rfl dL_law_312 ?_
        refine lv_aload_n hx hb dL_law_313 rfl (lv_at hl 1 rfl) ?_
        refine lv_iload_n hx hb dL_law_314 rfl (lv_at hl 0 rfl) ?_
        refine lv_iconst (v := nI 2) hx hb dL_law_315 (by decide) ?_
        refine lv_iadd hx hb dL_law_316 ?_
        refine q_ti (y := nI (i9 + 2)) (nI_add _ _) ?_
        refine q_sld hx hb hX hbl hbA hS (i9 + 2) (by omega) hL rfl dL_law_317 ?_
        refine qcall_i (va_runV (As := [.int (xs (i9 + 1)), .int (xs (i9 + 2))]) (rest := []) ⟨hx, hb, hml, hown, hts⟩ (c_X4_waiting l dd ga n k ad σ hsq hLc (xs (i9 + 1)) (xs (i9 + 2))) (cwV 2 hts gL_law_X4_waiting rfl rfl rfl (by decide +kernel) ⟨Nat.le_of_ble_eq_true rfl, Nat.le_of_ble_eq_true rfl⟩) (qpreV hK hC hC.self rfl) rfl rfl hl.1 rfl (lv_room (Nat.le_of_ble_eq_true rfl)) dL_law_318 ⟨by show _ ≤ 600000; omega, by show _ ≤ 7302250; omega⟩) hS hA1 (fun vc H locs hp9 hz9 ho9 hS => ?_)
        obtain ⟨ec, hC⟩ := hp9
        have hR := hR.kept (fun a ha => ho9 _ (fun h => by obtain ⟨a2, d2, h1, h2⟩ := h; exact hdis a2 d2 a h1 ha h2.symm))
        refine lv_aload_n hx hb dL_law_321 rfl (lv_at hl 3 rfl) ?_
        refine lv_aload_n hx hb dL_law_322 rfl (lv_at hl 1 rfl) ?_
        refine lv_iload_n hx hb dL_law_323 rfl (lv_at hl 0 rfl) ?_
        refine lv_iconst (v := nI 1) hx hb dL_law_324 (by decide) ?_
        refine lv_iadd hx hb dL_law_325 ?_
        refine q_ti (y := nI (i9 + 1)) (nI_add _ _) ?_
        refine q_sld hx hb hX hbl hbA hS (i9 + 1) (by omega) hL rfl dL_law_326 ?_
        refine lv_aload_n hx hb dL_law_327 rfl (lv_at hl 1 rfl) ?_
        refine lv_iload_n hx hb dL_law_328 rfl (lv_at hl 0 rfl) ?_
        refine lv_iconst (v := nI 2) hx hb dL_law_329 (by decide) ?_
        refine lv_iadd hx hb dL_law_330 ?_
        refine q_ti (y := nI (i9 + 2)) (nI_add _ _) ?_
        refine q_sld hx hb hX hbl hbA hS (i9 + 2) (by omega) hL rfl dL_law_331 ?_
        refine qcall_i (va_runV (As := [.int (xs (i9 + 1)), .int (xs (i9 + 2))]) (rest := [.int vc]) ⟨hx, hb, hml, hown, hts⟩ (c_X5_waiting l dd ga n k ar σ hsq hLr (xs (i9 + 1)) (xs (i9 + 2))) (cwV 2 hts gL_law_X5_waiting rfl rfl rfl (by decide +kernel) ⟨Nat.le_of_ble_eq_true rfl, Nat.le_of_ble_eq_true rfl⟩) (qpreV hK hR hR.obj rfl) rfl rfl hl.1 rfl (lv_room (Nat.le_of_ble_eq_true rfl)) dL_law_332 ⟨by show _ ≤ 600000; omega, by show _ ≤ 7302250; omega⟩) hS hA2 (fun vr H locs hp9 hz9 ho9 hS => ?_)
        obtain ⟨er, hR⟩ := hp9
        have hC := hC.kept (fun a d hd => ho9 _ (fun h => by obtain ⟨z, h1, h2⟩ := h; exact hdis a d z hd h1 h2))
        refine lv_icmp_eq (tgt := 472) hx hb dL_law_335 (by decide) (fun c_335 => ?_) (fun c_335 => absurd (by rw [ec, er]) c_335)
        refine lv_iinc (v := nI (i9 + 5)) (lv' := [(3, .int (nI (i9 + 5))), (0, .ref b), (1, .ref (ad 0 0)), (2, .ref (ar 0))]) hx hb dL_law_472 hl (k := 0) rfl (nI_add i9 5) (by decide) rfl (fun ls hl => ?_)
        refine lv_goto (tgt := 28) hx hb dL_law_475 (by decide) ?_
        exact ih (i9 + 5) (σ) _ _ ls (by omega) (by omega) (by omega) (hmon _ _ _ (by omega) hJ5) hC hR hS hl
      · refine lv_tableIn (tgt := 340) hx hb dL_law_42 (by decide) (by decide) rfl (by decide) ?_
        obtain ⟨hcap, hkd, hent, hcnt⟩ := hJ1
        refine lv_aload_n hx hb dL_law_340 rfl (lv_at hl 2 rfl) ?_
        refine lv_aload_n hx hb dL_law_341 rfl (lv_at hl 1 rfl) ?_
        refine lv_iload_n hx hb dL_law_342 rfl (lv_at hl 0 rfl) ?_
        refine lv_iconst (v := nI 1) hx hb dL_law_343 (by decide) ?_
        refine lv_iadd hx hb dL_law_344 ?_
        refine q_ti (y := nI (i9 + 1)) (nI_add _ _) ?_
        refine q_sld hx hb hX hbl hbA hS (i9 + 1) (by omega) hL rfl dL_law_345 ?_
        refine lv_aload_n hx hb dL_law_346 rfl (lv_at hl 1 rfl) ?_
        refine lv_iload_n hx hb dL_law_347 rfl (lv_at hl 0 rfl) ?_
        refine lv_iconst (v := nI 2) hx hb dL_law_348 (by decide) ?_
        refine lv_iadd hx hb dL_law_349 ?_
        refine q_ti (y := nI (i9 + 2)) (nI_add _ _) ?_
        refine q_sld hx hb hX hbl hbA hS (i9 + 2) (by omega) hL rfl dL_law_350 ?_
        refine lv_aload_n hx hb dL_law_351 rfl (lv_at hl 1 rfl) ?_
        refine lv_iload_n hx hb dL_law_352 rfl (lv_at hl 0 rfl) ?_
        refine lv_iconst (v := nI 3) hx hb dL_law_353 (by decide) ?_
        refine lv_iadd hx hb dL_law_354 ?_
        refine q_ti (y := nI (i9 + 3)) (nI_add _ _) ?_
        refine q_sld hx hb hX hbl hbA hS (i9 + 3) (by omega) hL rfl dL_law_355 ?_
        refine lv_aload_n hx hb dL_law_356 rfl (lv_at hl 1 rfl) ?_
        refine lv_iload_n hx hb dL_law_357 rfl (lv_at hl 0 rfl) ?_
        refine lv_iconst (v := nI 4) hx hb dL_law_358 (by decide) ?_
        refine lv_iadd hx hb dL_law_359 ?_
        refine q_ti (y := nI (i9 + 4)) (nI_add _ _) ?_
        refine q_sld hx hb hX hbl hbA hS (i9 + 4) (by omega) hL rfl dL_law_360 ?_
        refine qcall_i (va_runV (As := [.int (xs (i9 + 1)), .int (xs (i9 + 2)), .int (xs (i9 + 3)), .int (xs (i9 + 4))]) (rest := []) ⟨hx, hb, hml, hown, hts⟩ (c_X4_look l dd ga n k ad σ hsq hLc (xs (i9 + 1)) (xs (i9 + 2)) (xs (i9 + 3)) (xs (i9 + 4))) (cwV 4 hts gL_law_X4_look rfl rfl rfl (by decide +kernel) ⟨Nat.le_of_ble_eq_true rfl, Nat.le_of_ble_eq_true rfl⟩) (qpreV hK hC hC.self rfl) rfl rfl hl.1 rfl (lv_room (Nat.le_of_ble_eq_true rfl)) dL_law_361 ⟨by show _ ≤ 600000; omega, by show _ ≤ 7302250; omega⟩) hS hA1 (fun vc H locs hp9 hz9 ho9 hS => ?_)
        obtain ⟨ec, hC⟩ := hp9
        have hR := hR.kept (fun a ha => ho9 _ (fun h => by obtain ⟨a2, d2, h1, h2⟩ := h; exact hdis a2 d2 a h1 ha h2.symm))
        refine lv_aload_n hx hb dL_law_364 rfl (lv_at hl 3 rfl) ?_
        refine lv_aload_n hx hb dL_law_365 rfl (lv_at hl 1 rfl) ?_
        refine lv_iload_n hx hb dL_law_366 rfl (lv_at hl 0 rfl) ?_
        refine lv_iconst (v := nI 1) hx hb dL_law_367 (by decide) ?_
        refine lv_iadd hx hb dL_law_368 ?_
        refine q_ti (y := nI (i9 + 1)) (nI_add _ _) ?_
        refine q_sld hx hb hX hbl hbA hS (i9 + 1) (by omega) hL rfl dL_law_369 ?_
        refine lv_aload_n hx hb dL_law_370 rfl (lv_at hl 1 rfl) ?_
        refine lv_iload_n hx hb dL_law_371 rfl (lv_at hl 0 rfl) ?_
        refine lv_iconst (v := nI 2) hx hb dL_law_372 (by decide) ?_
        refine lv_iadd hx hb dL_law_373 ?_
        refine q_ti (y := nI (i9 + 2)) (nI_add _ _) ?_
        refine q_sld hx hb hX hbl hbA hS (i9 + 2) (by omega) hL rfl dL_law_374 ?_
        refine lv_aload_n hx hb dL_law_375 rfl (lv_at hl 1 rfl) ?_
        refine lv_iload_n hx hb dL_law_376 rfl (lv_at hl 0 rfl) ?_
        refine lv_iconst (v := nI 3) hx hb dL_law_377 (by decide) ?_
        refine lv_iadd hx hb dL_law_378 ?_
        refine q_ti (y := nI (i9 + 3)) (nI_add _ _) ?_
        refine q_sld hx hb hX hbl hbA hS (i9 + 3) (by omega) hL rfl dL_law_379 ?_
        refine lv_aload_n hx hb dL_law_380 rfl (lv_at hl 1 rfl) ?_
        refine lv_iload_n hx hb dL_law_381 rfl (lv_at hl 0 rfl) ?_
        refine lv_iconst (v := nI 4) hx hb dL_law_382 (by decide) ?_
        refine lv_iadd hx hb dL_law_383 ?_
        refine q_ti (y := nI (i9 + 4)) (nI_add _ _) ?_
        refine q_sld hx hb hX hbl hbA hS (i9 + 4) (by omega) hL rfl dL_law_384 ?_
        refine qcall_i (va_runV (As := [.int (xs (i9 + 1)), .int (xs (i9 + 2)), .int (xs (i9 + 3)), .int (xs (i9 + 4))]) (rest := [.int vc]) ⟨hx, hb, hml, hown, hts⟩ (c_X5_look l dd ga n k ar σ hsq hLr (xs (i9 + 1)) (xs (i9 + 2)) (xs (i9 + 3)) (xs (i9 + 4))) (cwV 4 hts gL_law_X5_look rfl rfl rfl (by decide +kernel) ⟨Nat.le_of_ble_eq_true rfl, Nat.le_of_ble_eq_true rfl⟩) (qpreV hK hR hR.obj rfl) rfl rfl hl.1 rfl (lv_room (Nat.le_of_ble_eq_true rfl)) dL_law_385 ⟨by show _ ≤ 600000; omega, by show _ ≤ 7302250; omega⟩) hS hA2 (fun vr H locs hp9 hz9 ho9 hS => ?_)
        obtain ⟨er, hR⟩ := hp9
        have hC := hC.kept (fun a d hd => ho9 _ (fun h => by obtain ⟨z, h1, h2⟩ := h; exact hdis a d z hd h1 h2))
        refine lv_icmp_eq (tgt := 472) hx hb dL_law_388 (by decide) (fun c_388 => ?_) (fun c_388 => absurd (by rw [ec, er]) c_388)
        refine lv_iinc (v := nI (i9 + 5)) (lv' := [(3, .int (nI (i9 + 5))), (0, .ref b), (1, .ref (ad 0 0)), (2, .ref (ar 0))]) hx hb dL_law_472 hl (k := 0) rfl (nI_add i9 5) (by decide) rfl (fun ls hl => ?_)
        refine lv_goto (tgt := 28) hx hb dL_law_475 (by decide) ?_
        exact ih (i9 + 5) (σ) _ _ ls (by omega) (by omega) (by omega) (hmon _ _ _ (by omega) hJ5) hC hR hS hl
      · refine lv_tableIn (tgt := 393) hx hb dL_law_42 (by decide) (by decide) rfl (by decide) ?_
        obtain ⟨hcap, hkd, hent, hcnt⟩ := hJ1
        refine lv_aload_n hx hb dL_law_393 rfl (lv_at hl 2 rfl) ?_
        refine lv_aload_n hx hb dL_law_394 rfl (lv_at hl 1 rfl) ?_
        refine lv_iload_n hx hb dL_law_395 rfl (lv_at hl 0 rfl) ?_
        refine lv_iconst (v := nI 1) hx hb dL_law_396 (by decide) ?_
        refine lv_iadd hx hb dL_law_397 ?_
        refine q_ti (y := nI (i9 + 1)) (nI_add _ _) ?_
        refine q_sld hx hb hX hbl hbA hS (i9 + 1) (by omega) hL rfl dL_law_398 ?_
        refine lv_aload_n hx hb dL_law_399 rfl (lv_at hl 1 rfl) ?_
        refine lv_iload_n hx hb dL_law_400 rfl (lv_at hl 0 rfl) ?_
        refine lv_iconst (v := nI 2) hx hb dL_law_401 (by decide) ?_
        refine lv_iadd hx hb dL_law_402 ?_
        refine q_ti (y := nI (i9 + 2)) (nI_add _ _) ?_
        refine q_sld hx hb hX hbl hbA hS (i9 + 2) (by omega) hL rfl dL_law_403 ?_
        refine qcall_i (va_runV (As := [.int (xs (i9 + 1)), .int (xs (i9 + 2))]) (rest := []) ⟨hx, hb, hml, hown, hts⟩ (c_X4_told l dd ga n k ad σ hsq hLc (xs (i9 + 1)) (xs (i9 + 2))) (cwV 2 hts gL_law_X4_told rfl rfl rfl (by decide +kernel) ⟨Nat.le_of_ble_eq_true rfl, Nat.le_of_ble_eq_true rfl⟩) (qpreV hK hC hC.self rfl) rfl rfl hl.1 rfl (lv_room (Nat.le_of_ble_eq_true rfl)) dL_law_404 ⟨by show _ ≤ 600000; omega, by show _ ≤ 7302250; omega⟩) hS hA1 (fun vc H locs hp9 hz9 ho9 hS => ?_)
        obtain ⟨ec, hC⟩ := hp9
        have hR := hR.kept (fun a ha => ho9 _ (fun h => by obtain ⟨a2, d2, h1, h2⟩ := h; exact hdis a2 d2 a h1 ha h2.symm))
        refine lv_aload_n hx hb dL_law_407 rfl (lv_at hl 3 rfl) ?_
        refine lv_aload_n hx hb dL_law_408 rfl (lv_at hl 1 rfl) ?_
        refine lv_iload_n hx hb dL_law_409 rfl (lv_at hl 0 rfl) ?_
        refine lv_iconst (v := nI 1) hx hb dL_law_410 (by decide) ?_
        refine lv_iadd hx hb dL_law_411 ?_
        refine q_ti (y := nI (i9 + 1)) (nI_add _ _) ?_
        refine q_sld hx hb hX hbl hbA hS (i9 + 1) (by omega) hL rfl dL_law_412 ?_
        refine lv_aload_n hx hb dL_law_413 rfl (lv_at hl 1 rfl) ?_
        refine lv_iload_n hx hb dL_law_414 rfl (lv_at hl 0 rfl) ?_
        refine lv_iconst (v := nI 2) hx hb dL_law_415 (by decide) ?_
        refine lv_iadd hx hb dL_law_416 ?_
        refine q_ti (y := nI (i9 + 2)) (nI_add _ _) ?_
        refine q_sld hx hb hX hbl hbA hS (i9 + 2) (by omega) hL rfl dL_law_417 ?_
        refine qcall_i (va_runV (As := [.int (xs (i9 + 1)), .int (xs (i9 + 2))]) (rest := [.int vc]) ⟨hx, hb, hml, hown, hts⟩ (c_X5_told l dd ga n k ar σ hsq hLr (xs (i9 + 1)) (xs (i9 + 2))) (cwV 2 hts gL_law_X5_told rfl rfl rfl (by decide +kernel) ⟨Nat.le_of_ble_eq_true rfl, Nat.le_of_ble_eq_true rfl⟩) (qpreV hK hR hR.obj rfl) rfl rfl hl.1 rfl (lv_room (Nat.le_of_ble_eq_true rfl)) dL_law_418 ⟨by show _ ≤ 600000; omega, by show _ ≤ 7302250; omega⟩) hS hA2 (fun vr H locs hp9 hz9 ho9 hS => ?_)
        obtain ⟨er, hR⟩ := hp9
        have hC := hC.kept (fun a d hd => ho9 _ (fun h => by obtain ⟨z, h1, h2⟩ := h; exact hdis a d z hd h1 h2))
        refine lv_icmp_eq (tgt := 472) hx hb dL_law_421 (by decide) (fun c_421 => ?_) (fun c_421 => absurd (by rw [ec, er]) c_421)
        refine lv_iinc (v := nI (i9 + 5)) (lv' := [(3, .int (nI (i9 + 5))), (0, .ref b), (1, .ref (ad 0 0)), (2, .ref (ar 0))]) hx hb dL_law_472 hl (k := 0) rfl (nI_add i9 5) (by decide) rfl (fun ls hl => ?_)
        refine lv_goto (tgt := 28) hx hb dL_law_475 (by decide) ?_
        exact ih (i9 + 5) (σ) _ _ ls (by omega) (by omega) (by omega) (hmon _ _ _ (by omega) hJ5) hC hR hS hl
      · refine lv_tableIn (tgt := 426) hx hb dL_law_42 (by decide) (by decide) rfl (by decide) ?_
        obtain ⟨hcap, hkd, hent, hcnt⟩ := hJ1
        refine lv_aload_n hx hb dL_law_426 rfl (lv_at hl 2 rfl) ?_
        refine lv_aload_n hx hb dL_law_427 rfl (lv_at hl 1 rfl) ?_
        refine lv_iload_n hx hb dL_law_428 rfl (lv_at hl 0 rfl) ?_
        refine lv_iconst (v := nI 1) hx hb dL_law_429 (by decide) ?_
        refine lv_iadd hx hb dL_law_430 ?_
        refine q_ti (y := nI (i9 + 1)) (nI_add _ _) ?_
        refine q_sld hx hb hX hbl hbA hS (i9 + 1) (by omega) hL rfl dL_law_431 ?_
        refine lv_aload_n hx hb dL_law_432 rfl (lv_at hl 1 rfl) ?_
        refine lv_iload_n hx hb dL_law_433 rfl (lv_at hl 0 rfl) ?_
        refine lv_iconst (v := nI 2) hx hb dL_law_434 (by decide) ?_
        refine lv_iadd hx hb dL_law_435 ?_
        refine q_ti (y := nI (i9 + 2)) (nI_add _ _) ?_
        refine q_sld hx hb hX hbl hbA hS (i9 + 2) (by omega) hL rfl dL_law_436 ?_
        refine qcall_i (va_runV (As := [.int (xs (i9 + 1)), .int (xs (i9 + 2))]) (rest := []) ⟨hx, hb, hml, hown, hts⟩ (c_X4_waits l dd ga n k ad σ hsq hLc (xs (i9 + 1)) (xs (i9 + 2)) hcap) (cwV 2 hts gL_law_X4_waits rfl rfl rfl (by decide +kernel) ⟨Nat.le_of_ble_eq_true rfl, Nat.le_of_ble_eq_true rfl⟩) (qpreV hK hC hC.self rfl) rfl rfl hl.1 rfl (lv_room (Nat.le_of_ble_eq_true rfl)) dL_law_437 ⟨by show _ ≤ 600000; omega, by show _ ≤ 7302250; omega⟩) hS hA1 (fun vc H locs hp9 hz9 ho9 hS => ?_)
        obtain ⟨ec, hC⟩ := hp9
        have hR := hR.kept (fun a ha => ho9 _ (fun h => by obtain ⟨a2, d2, h1, h2⟩ := h; exact hdis a2 d2 a h1 ha h2.symm))
        refine lv_aload_n hx hb dL_law_440 rfl (lv_at hl 3 rfl) ?_
        refine lv_aload_n hx hb dL_law_441 rfl (lv_at hl 1 rfl) ?_
        refine lv_iload_n hx hb dL_law_442 rfl (lv_at hl 0 rfl) ?_
        refine lv_iconst (v := nI 1) hx hb dL_law_443 (by decide) ?_
        refine lv_iadd hx hb dL_law_444 ?_
        refine q_ti (y := nI (i9 + 1)) (nI_add _ _) ?_
        refine q_sld hx hb hX hbl hbA hS (i9 + 1) (by omega) hL rfl dL_law_445 ?_
        refine lv_aload_n hx hb dL_law_446 rfl (lv_at hl 1 rfl) ?_
        refine lv_iload_n hx hb dL_law_447 rfl (lv_at hl 0 rfl) ?_
        refine lv_iconst (v := nI 2) hx hb dL_law_448 (by decide) ?_
        refine lv_iadd hx hb dL_law_449 ?_
        refine q_ti (y := nI (i9 + 2)) (nI_add _ _) ?_
        refine q_sld hx hb hX hbl hbA hS (i9 + 2) (by omega) hL rfl dL_law_450 ?_
        refine qcall_i (va_runV (As := [.int (xs (i9 + 1)), .int (xs (i9 + 2))]) (rest := [.int vc]) ⟨hx, hb, hml, hown, hts⟩ (c_X5_waits l dd ga n k ar σ hsq hLr (xs (i9 + 1)) (xs (i9 + 2))) (cwV 2 hts gL_law_X5_waits rfl rfl rfl (by decide +kernel) ⟨Nat.le_of_ble_eq_true rfl, Nat.le_of_ble_eq_true rfl⟩) (qpreV hK hR hR.obj rfl) rfl rfl hl.1 rfl (lv_room (Nat.le_of_ble_eq_true rfl)) dL_law_451 ⟨by show _ ≤ 600000; omega, by show _ ≤ 7302250; omega⟩) hS hA2 (fun vr H locs hp9 hz9 ho9 hS => ?_)
        obtain ⟨er, hR⟩ := hp9
        have hC := hC.kept (fun a d hd => ho9 _ (fun h => by obtain ⟨z, h1, h2⟩ := h; exact hdis a d z hd h1 h2))
        refine lv_icmp_eq (tgt := 472) hx hb dL_law_454 (by decide) (fun c_454 => ?_) (fun c_454 => absurd (by rw [ec, er]) c_454)
        refine lv_iinc (v := nI (i9 + 5)) (lv' := [(3, .int (nI (i9 + 5))), (0, .ref b), (1, .ref (ad 0 0)), (2, .ref (ar 0))]) hx hb dL_law_472 hl (k := 0) rfl (nI_add i9 5) (by decide) rfl (fun ls hl => ?_)
        refine lv_goto (tgt := 28) hx hb dL_law_475 (by decide) ?_
        exact ih (i9 + 5) (σ) _ _ ls (by omega) (by omega) (by omega) (hmon _ _ _ (by omega) hJ5) hC hR hS hl
      · refine lv_tableIn (tgt := 459) hx hb dL_law_42 (by decide) (by decide) rfl (by decide) ?_
        obtain ⟨hcap, hkd, hent, hcnt⟩ := hJ1
        refine lv_aload_n hx hb dL_law_459 rfl (lv_at hl 2 rfl) ?_
        refine qcall_i (va_runV (As := []) (rest := []) ⟨hx, hb, hml, hown, hts⟩ (c_X4_entered l dd ga n k ad σ hsq hLc ) (cwV 0 hts gL_law_X4_entered rfl rfl rfl (by decide +kernel) ⟨Nat.le_of_ble_eq_true rfl, Nat.le_of_ble_eq_true rfl⟩) (qpreV hK hC hC.self rfl) rfl rfl hl.1 rfl (lv_room (Nat.le_of_ble_eq_true rfl)) dL_law_460 ⟨by show _ ≤ 600000; omega, by show _ ≤ 7302250; omega⟩) hS hA1 (fun vc H locs hp9 hz9 ho9 hS => ?_)
        obtain ⟨ec, hC⟩ := hp9
        have hR := hR.kept (fun a ha => ho9 _ (fun h => by obtain ⟨a2, d2, h1, h2⟩ := h; exact hdis a2 d2 a h1 ha h2.symm))
        refine lv_aload_n hx hb dL_law_463 rfl (lv_at hl 3 rfl) ?_
        refine qcall_i (va_runV (As := []) (rest := [.int vc]) ⟨hx, hb, hml, hown, hts⟩ (c_X5_entered l dd ga n k ar σ hsq hLr ) (cwV 0 hts gL_law_X5_entered rfl rfl rfl (by decide +kernel) ⟨Nat.le_of_ble_eq_true rfl, Nat.le_of_ble_eq_true rfl⟩) (qpreV hK hR hR.obj rfl) rfl rfl hl.1 rfl (lv_room (Nat.le_of_ble_eq_true rfl)) dL_law_464 ⟨by show _ ≤ 600000; omega, by show _ ≤ 7302250; omega⟩) hS hA2 (fun vr H locs hp9 hz9 ho9 hS => ?_)
        obtain ⟨er, hR⟩ := hp9
        have hC := hC.kept (fun a d hd => ho9 _ (fun h => by obtain ⟨z, h1, h2⟩ := h; exact hdis a d z hd h1 h2))
        refine lv_icmp_eq (tgt := 472) hx hb dL_law_467 (by decide) (fun c_467 => ?_) (fun c_467 => absurd (by rw [ec, er]) c_467)
        refine lv_iinc (v := nI (i9 + 5)) (lv' := [(3, .int (nI (i9 + 5))), (0, .ref b), (1, .ref (ad 0 0)), (2, .ref (ar 0))]) hx hb dL_law_472 hl (k := 0) rfl (nI_add i9 5) (by decide) rfl (fun ls hl => ?_)
        refine lv_goto (tgt := 28) hx hb dL_law_475 (by decide) ?_
        exact ih (i9 + 5) (σ) _ _ ls (by omega) (by omega) (by omega) (hmon _ _ _ (by omega) hJ5) hC hR hS hl
      · refine lv_tableOut (tgt := 472) hx hb dL_law_42 (Or.inr (by decide)) (by decide) ?_
        refine lv_iinc (v := nI (i9 + 5)) (lv' := [(3, .int (nI (i9 + 5))), (0, .ref b), (1, .ref (ad 0 0)), (2, .ref (ar 0))]) hx hb dL_law_472 hl (k := 0) rfl (nI_add i9 5) (by decide) rfl (fun ls hl => ?_)
        refine lv_goto (tgt := 28) hx hb dL_law_475 (by decide) ?_
        exact ih (i9 + 5) (σ) _ _ ls (by omega) (by omega) (by omega) (hmon _ _ _ (by omega) hJ5) hC hR hS hl
      · refine lv_tableOut (tgt := 472) hx hb dL_law_42 (Or.inr (by decide)) (by decide) ?_
        refine lv_iinc (v := nI (i9 + 5)) (lv' := [(3, .int (nI (i9 + 5))), (0, .ref b), (1, .ref (ad 0 0)), (2, .ref (ar 0))]) hx hb dL_law_472 hl (k := 0) rfl (nI_add i9 5) (by decide) rfl (fun ls hl => ?_)
        refine lv_goto (tgt := 28) hx hb dL_law_475 (by decide) ?_
        exact ih (i9 + 5) (σ) _ _ ls (by omega) (by omega) (by omega) (hmon _ _ _ (by omega) hJ5) hC hR hS hl
