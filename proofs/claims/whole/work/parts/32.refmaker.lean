/-- the side that a number gives -/
def q_kk (x : Int32) : Nat := if x < 1 then 1 else if 4 < x then 4 else x.toNatClampNeg
theorem q_kk_sq (x : Int32) : qSq (q_kk x * q_kk x) (q_kk x) := by
  refine ⟨rfl, ?_⟩
  unfold q_kk
  split
  · decide
  · split
    · decide
    · rename_i h1 h2
      obtain ⟨j, hj, ej⟩ : ∃ j : Nat, j ≤ 4 ∧ x = nI j := nI_of2 (M := 4) (by decide) (fun h => h1 (Int32.lt_trans h (by decide))) (Int32.not_lt.mp h2)
      subst ej
      rw [nI_clamp (by omega)]
      refine ⟨?_, hj⟩
      rcases Nat.eq_zero_or_pos j with h | h
      · subst h; exact absurd (by decide) h1
      · exact h
theorem q_kk_v {x : Int32} (h1 : ¬ x < 1) (h2 : ¬ 4 < x) : x = nI (q_kk x) := by
  obtain ⟨j, hj, ej⟩ : ∃ j : Nat, j ≤ 4 ∧ x = nI j := nI_of2 (M := 4) (by decide) (fun h => h1 (Int32.lt_trans h (by decide))) (Int32.not_lt.mp h2)
  unfold q_kk
  rw [if_neg h1, if_neg h2, ej, nI_clamp (by omega)]
theorem q_ar17 {h0 q1 q2 q3 q4 q5 q6 q7 q8 q9 q10 q11 q12 q13 q14 q15 q16 : Nat} (o1 : h0 < q1) (o2 : q1 < q2) (o3 : q2 < q3) (o4 : q3 < q4) (o5 : q4 < q5) (o6 : q5 < q6) (o7 : q6 < q7) (o8 : q7 < q8) (o9 : q8 < q9) (o10 : q9 < q10) (o11 : q10 < q11) (o12 : q11 < q12) (o13 : q12 < q13) (o14 : q13 < q14) (o15 : q14 < q15) (o16 : q15 < q16) : ∃ ar : Nat → Nat, ar 0 = h0 ∧ ar 1 = q1 ∧ ar 2 = q2 ∧ ar 3 = q3 ∧ ar 4 = q4 ∧ ar 5 = q5 ∧ ar 6 = q6 ∧ ar 7 = q7 ∧ ar 8 = q8 ∧ ar 9 = q9 ∧ ar 10 = q10 ∧ ar 11 = q11 ∧ ar 12 = q12 ∧ ar 13 = q13 ∧ ar 14 = q14 ∧ ar 15 = q15 ∧ ar 16 = q16 ∧ qLr ar := by
  refine ⟨fun a => match a with | 0 => h0 | 1 => q1 | 2 => q2 | 3 => q3 | 4 => q4 | 5 => q5 | 6 => q6 | 7 => q7 | 8 => q8 | 9 => q9 | 10 => q10 | 11 => q11 | 12 => q12 | 13 => q13 | 14 => q14 | 15 => q15 | _ => q16, rfl, rfl, rfl, rfl, rfl, rfl, rfl, rfl, rfl, rfl, rfl, rfl, rfl, rfl, rfl, rfl, rfl, ?_⟩
  intro a b ha hb9 he
  generalize har : (fun a => match a with | 0 => h0 | 1 => q1 | 2 => q2 | 3 => q3 | 4 => q4 | 5 => q5 | 6 => q6 | 7 => q7 | 8 => q8 | 9 => q9 | 10 => q10 | 11 => q11 | 12 => q12 | 13 => q13 | 14 => q14 | 15 => q15 | _ => q16 : Nat → Nat) = ar at he
  have a0 : ar 0 = h0 := by rw [← har]; rfl
  have a1 : ar 1 = q1 := by rw [← har]; rfl
  have a2 : ar 2 = q2 := by rw [← har]; rfl
  have a3 : ar 3 = q3 := by rw [← har]; rfl
  have a4 : ar 4 = q4 := by rw [← har]; rfl
  have a5 : ar 5 = q5 := by rw [← har]; rfl
  have a6 : ar 6 = q6 := by rw [← har]; rfl
  have a7 : ar 7 = q7 := by rw [← har]; rfl
  have a8 : ar 8 = q8 := by rw [← har]; rfl
  have a9 : ar 9 = q9 := by rw [← har]; rfl
  have a10 : ar 10 = q10 := by rw [← har]; rfl
  have a11 : ar 11 = q11 := by rw [← har]; rfl
  have a12 : ar 12 = q12 := by rw [← har]; rfl
  have a13 : ar 13 = q13 := by rw [← har]; rfl
  have a14 : ar 14 = q14 := by rw [← har]; rfl
  have a15 : ar 15 = q15 := by rw [← har]; rfl
  have a16 : ar 16 = q16 := by rw [← har]; rfl
  have hm : ∀ z : Nat, z ≤ 15 → ar z < ar (z + 1) := by
    intro z hz
    rcases (show z = 0 ∨ z = 1 ∨ z = 2 ∨ z = 3 ∨ z = 4 ∨ z = 5 ∨ z = 6 ∨ z = 7 ∨ z = 8 ∨ z = 9 ∨ z = 10 ∨ z = 11 ∨ z = 12 ∨ z = 13 ∨ z = 14 ∨ z = 15 by omega) with h | h | h | h | h | h | h | h | h | h | h | h | h | h | h | h <;> subst h
    · rw [a0, a1]; exact o1
    · rw [a1, a2]; exact o2
    · rw [a2, a3]; exact o3
    · rw [a3, a4]; exact o4
    · rw [a4, a5]; exact o5
    · rw [a5, a6]; exact o6
    · rw [a6, a7]; exact o7
    · rw [a7, a8]; exact o8
    · rw [a8, a9]; exact o9
    · rw [a9, a10]; exact o10
    · rw [a10, a11]; exact o11
    · rw [a11, a12]; exact o12
    · rw [a12, a13]; exact o13
    · rw [a13, a14]; exact o14
    · rw [a14, a15]; exact o15
    · rw [a15, a16]; exact o16
  have hmm : ∀ (d z : Nat), z + d + 1 ≤ 16 → ar z < ar (z + d + 1) := by
    intro d
    induction d with
    | zero => intro z hz; exact hm z (by omega)
    | succ d ih => intro z hz; exact Nat.lt_trans (ih z (by omega)) (hm (z + d + 1) (by omega))
  rcases Nat.lt_trichotomy a b with h | h | h
  · have := hmm (b - a - 1) a (by omega); rw [show a + (b - a - 1) + 1 = b by omega] at this; omega
  · exact h
  · have := hmm (a - b - 1) b (by omega); rw [show b + (a - b - 1) + 1 = a by omega] at this; omega
set_option maxHeartbeats 4000000 in
set_option maxRecDepth 100000 in
/-- X5_init -/
theorem c_X5_init (l : Launch) (dd : va_G) (ga : Nat → ClassId) (h0 sz : Nat) (x : Int32) : Met l yX5_init wsX5_init ({ frames := 1, cells := 16, slots := 51616, locals := 21 }) (qPc dd ga [.ref h0, .int x] (fun H => H.size = sz ∧ va_at dd vwCl (h0, .inr (5, [.int 0, .int 0, .null, .null, .null, .null, .null, .null, .null, .null, .null, .null, .null, .null, .null, .null, .null, .null, .int 0])) H)) (qQa (fun H => ∃ ar : Nat → Nat, qLr ar ∧ ar 0 = h0 ∧ (∀ a : Nat, 1 ≤ a → a ≤ 16 → sz ≤ ar a) ∧ qR dd ga (q_kk x * q_kk x) (q_kk x) ar q_init H) (fun q => q = h0 ∨ sz ≤ q)) (16) (51616) (fun q => q = h0 ∨ sz ≤ q) := by
  refine Met.ofW (cc := cX5_init) (maxL := 2) (ret := none) (by decide) rfl ?_
  intro p e s m args below meth c s₁ B hml hv
  obtain ⟨rfl, ⟨hsz, hP⟩, hK⟩ := hv
  have hx := B.exec
  have hb := B.bytes
  have hr := B.returns
  have hts := atoms_spec (ws := wsX5_init) B.pre
  have hown : s.vm.findClass RX5 = some m.cls := findClass_of_methodNamed B.named
  have hlocks := B.notSynchronized
  have hin9 : meth.name = "<init>" := (name_of_methodNamed B.named B.method).1
  have hS : va_S (fun q => q = h0 ∨ sz ≤ q) s.heap s.heap [] := va_S.rf
  have hl := lv_entry ([.ref h0, .int x]) (n := 2) (Nat.le_of_ble_eq_true rfl)
  rw [lg_entry_eq]
  generalize (lg_sl ([.ref h0, .int x]) ++ List.replicate (2 - (lg_sl ([.ref h0, .int x])).length) Slot.unset).toArray = ls at hl ⊢
  have hin5 : ∀ w ∈ wsX50, w ∈ wsX5_init := by decide +kernel
  have hsq := q_kk_sq x
  have h0sz : h0 < sz := by rw [← hsz]; exact qa_lt hP
  refine lv_aload_n hx hb dX5_init_0 rfl (lv_at hl 0 rfl) ?_
  refine W.objInit hx hb hown (hts (.methodLink RX5 1 objectInit) (by decide +kernel)) (hts (.instanceMethod objectInit) (by decide +kernel)) (hts (.code objectInit ⟨#[0xb1]⟩ 1 none) (by decide +kernel)) rfl (by rw [hml]; exact hl.1) rfl dX5_init_1 (Nat.le_of_ble_eq_true rfl) (Nat.le_of_ble_eq_true rfl) ?_
  refine W.eq (g2 := F0 m 4 ls []) rfl ?_
  refine lv_aload_n hx hb dX5_init_4 rfl (lv_at hl 0 rfl) ?_
  refine lv_bipush (v := nI 16) hx hb dX5_init_5 (by decide) ?_
  refine qn_newi hx hb (hts (.arrayClass .int) (by decide +kernel)) hK hS (16) (by decide) rfl (by show _ ≤ 16; omega) (by show _ ≤ 51616; omega) dX5_init_7 (fun q1 H hq9 hz9 ho9 hat9 hS => ?_)
  have o_q1 : h0 < q1 := by rw [hq9]; exact qa_lt hP
  have hP := qa_keptL hP ho9
  have h_q1 := hat9
  have l_q1 : sz ≤ q1 := by rw [hq9]; exact Nat.le_trans (Nat.le_of_eq hsz.symm) (Nat.le_of_lt_succ (Nat.lt_succ_of_le (by have := hS.1; omega)))
  refine qn_putF (ci := 5) (C := RX5) (T := TX5) (N := 19) hx hb hts hin5 tyX5 tyX5_ok nmX5 hown hK hP hS (Or.inl rfl) rfl 2 (by decide) (hts (.fieldLink RX5 7 "QuorumLockModel" "clock" "[I") (by decide +kernel)) rfl hin9 rfl rfl rfl (Nat.le_of_ble_eq_true rfl) dX5_init_9 (fun H locs hz9 ho9 hat9 hS => ?_)
  have hP : va_at dd vwCl (h0, .inr (5, [.int 0, .int 0, .ref q1, .null, .null, .null, .null, .null, .null, .null, .null, .null, .null, .null, .null, .null, .null, .null, .int 0])) H := hat9
  have h_q1 := qa_kept h_q1 (ho9 _ (by omega))
  refine lv_aload_n hx hb dX5_init_12 rfl (lv_at hl 0 rfl) ?_
  refine lv_bipush (v := nI 16) hx hb dX5_init_13 (by decide) ?_
  refine qn_newi hx hb (hts (.arrayClass .int) (by decide +kernel)) hK hS (16) (by decide) rfl (by show _ ≤ 16; omega) (by show _ ≤ 51616; omega) dX5_init_15 (fun q2 H hq9 hz9 ho9 hat9 hS => ?_)
  have o_q2 : q1 < q2 := by rw [hq9]; exact qa_lt h_q1
  have hP := qa_keptL hP ho9
  have h_q1 := qa_keptL h_q1 ho9
  have h_q2 := hat9
  have l_q2 : sz ≤ q2 := by rw [hq9]; exact Nat.le_trans (Nat.le_of_eq hsz.symm) (Nat.le_of_lt_succ (Nat.lt_succ_of_le (by have := hS.1; omega)))
  refine qn_putF (ci := 5) (C := RX5) (T := TX5) (N := 19) hx hb hts hin5 tyX5 tyX5_ok nmX5 hown hK hP hS (Or.inl rfl) rfl 3 (by decide) (hts (.fieldLink RX5 13 "QuorumLockModel" "state" "[I") (by decide +kernel)) rfl hin9 rfl rfl rfl (Nat.le_of_ble_eq_true rfl) dX5_init_17 (fun H locs hz9 ho9 hat9 hS => ?_)
  have hP : va_at dd vwCl (h0, .inr (5, [.int 0, .int 0, .ref q1, .ref q2, .null, .null, .null, .null, .null, .null, .null, .null, .null, .null, .null, .null, .null, .null, .int 0])) H := hat9
  have h_q1 := qa_kept h_q1 (ho9 _ (by omega))
  have h_q2 := qa_kept h_q2 (ho9 _ (by omega))
  refine lv_aload_n hx hb dX5_init_20 rfl (lv_at hl 0 rfl) ?_
  refine lv_bipush (v := nI 16) hx hb dX5_init_21 (by decide) ?_
  refine qn_newi hx hb (hts (.arrayClass .int) (by decide +kernel)) hK hS (16) (by decide) rfl (by show _ ≤ 16; omega) (by show _ ≤ 51616; omega) dX5_init_23 (fun q3 H hq9 hz9 ho9 hat9 hS => ?_)
  have o_q3 : q2 < q3 := by rw [hq9]; exact qa_lt h_q2
  have hP := qa_keptL hP ho9
  have h_q1 := qa_keptL h_q1 ho9
  have h_q2 := qa_keptL h_q2 ho9
  have h_q3 := hat9
  have l_q3 : sz ≤ q3 := by rw [hq9]; exact Nat.le_trans (Nat.le_of_eq hsz.symm) (Nat.le_of_lt_succ (Nat.lt_succ_of_le (by have := hS.1; omega)))
  refine qn_putF (ci := 5) (C := RX5) (T := TX5) (N := 19) hx hb hts hin5 tyX5 tyX5_ok nmX5 hown hK hP hS (Or.inl rfl) rfl 4 (by decide) (hts (.fieldLink RX5 16 "QuorumLockModel" "time" "[I") (by decide +kernel)) rfl hin9 rfl rfl rfl (Nat.le_of_ble_eq_true rfl) dX5_init_25 (fun H locs hz9 ho9 hat9 hS => ?_)
  have hP : va_at dd vwCl (h0, .inr (5, [.int 0, .int 0, .ref q1, .ref q2, .ref q3, .null, .null, .null, .null, .null, .null, .null, .null, .null, .null, .null, .null, .null, .int 0])) H := hat9
  have h_q1 := qa_kept h_q1 (ho9 _ (by omega))
  have h_q2 := qa_kept h_q2 (ho9 _ (by omega))
  have h_q3 := qa_kept h_q3 (ho9 _ (by omega))
  refine lv_aload_n hx hb dX5_init_28 rfl (lv_at hl 0 rfl) ?_
  refine lv_bipush (v := nI 16) hx hb dX5_init_29 (by decide) ?_
  refine qn_newi hx hb (hts (.arrayClass .int) (by decide +kernel)) hK hS (16) (by decide) rfl (by show _ ≤ 16; omega) (by show _ ≤ 51616; omega) dX5_init_31 (fun q4 H hq9 hz9 ho9 hat9 hS => ?_)
  have o_q4 : q3 < q4 := by rw [hq9]; exact qa_lt h_q3
  have hP := qa_keptL hP ho9
  have h_q1 := qa_keptL h_q1 ho9
  have h_q2 := qa_keptL h_q2 ho9
  have h_q3 := qa_keptL h_q3 ho9
  have h_q4 := hat9
  have l_q4 : sz ≤ q4 := by rw [hq9]; exact Nat.le_trans (Nat.le_of_eq hsz.symm) (Nat.le_of_lt_succ (Nat.lt_succ_of_le (by have := hS.1; omega)))
  refine qn_putF (ci := 5) (C := RX5) (T := TX5) (N := 19) hx hb hts hin5 tyX5 tyX5_ok nmX5 hown hK hP hS (Or.inl rfl) rfl 5 (by decide) (hts (.fieldLink RX5 19 "QuorumLockModel" "votes" "[I") (by decide +kernel)) rfl hin9 rfl rfl rfl (Nat.le_of_ble_eq_true rfl) dX5_init_33 (fun H locs hz9 ho9 hat9 hS => ?_)
  have hP : va_at dd vwCl (h0, .inr (5, [.int 0, .int 0, .ref q1, .ref q2, .ref q3, .ref q4, .null, .null, .null, .null, .null, .null, .null, .null, .null, .null, .null, .null, .int 0])) H := hat9
  have h_q1 := qa_kept h_q1 (ho9 _ (by omega))
  have h_q2 := qa_kept h_q2 (ho9 _ (by omega))
  have h_q3 := qa_kept h_q3 (ho9 _ (by omega))
  have h_q4 := qa_kept h_q4 (ho9 _ (by omega))
  refine lv_aload_n hx hb dX5_init_36 rfl (lv_at hl 0 rfl) ?_
  refine lv_bipush (v := nI 16) hx hb dX5_init_37 (by decide) ?_
  refine qn_newi hx hb (hts (.arrayClass .int) (by decide +kernel)) hK hS (16) (by decide) rfl (by show _ ≤ 16; omega) (by show _ ≤ 51616; omega) dX5_init_39 (fun q5 H hq9 hz9 ho9 hat9 hS => ?_)
  have o_q5 : q4 < q5 := by rw [hq9]; exact qa_lt h_q4
  have hP := qa_keptL hP ho9
  have h_q1 := qa_keptL h_q1 ho9
  have h_q2 := qa_keptL h_q2 ho9
  have h_q3 := qa_keptL h_q3 ho9
  have h_q4 := qa_keptL h_q4 ho9
  have h_q5 := hat9
  have l_q5 : sz ≤ q5 := by rw [hq9]; exact Nat.le_trans (Nat.le_of_eq hsz.symm) (Nat.le_of_lt_succ (Nat.lt_succ_of_le (by have := hS.1; omega)))
  refine qn_putF (ci := 5) (C := RX5) (T := TX5) (N := 19) hx hb hts hin5 tyX5 tyX5_ok nmX5 hown hK hP hS (Or.inl rfl) rfl 6 (by decide) (hts (.fieldLink RX5 22 "QuorumLockModel" "failures" "[I") (by decide +kernel)) rfl hin9 rfl rfl rfl (Nat.le_of_ble_eq_true rfl) dX5_init_41 (fun H locs hz9 ho9 hat9 hS => ?_)
  have hP : va_at dd vwCl (h0, .inr (5, [.int 0, .int 0, .ref q1, .ref q2, .ref q3, .ref q4, .ref q5, .null, .null, .null, .null, .null, .null, .null, .null, .null, .null, .null, .int 0])) H := hat9
  have h_q1 := qa_kept h_q1 (ho9 _ (by omega))
  have h_q2 := qa_kept h_q2 (ho9 _ (by omega))
  have h_q3 := qa_kept h_q3 (ho9 _ (by omega))
  have h_q4 := qa_kept h_q4 (ho9 _ (by omega))
  have h_q5 := qa_kept h_q5 (ho9 _ (by omega))
  refine lv_aload_n hx hb dX5_init_44 rfl (lv_at hl 0 rfl) ?_
  refine lv_bipush (v := nI 16) hx hb dX5_init_45 (by decide) ?_
  refine qn_newi hx hb (hts (.arrayClass .int) (by decide +kernel)) hK hS (16) (by decide) rfl (by show _ ≤ 16; omega) (by show _ ≤ 51616; omega) dX5_init_47 (fun q6 H hq9 hz9 ho9 hat9 hS => ?_)
  have o_q6 : q5 < q6 := by rw [hq9]; exact qa_lt h_q5
  have hP := qa_keptL hP ho9
  have h_q1 := qa_keptL h_q1 ho9
  have h_q2 := qa_keptL h_q2 ho9
  have h_q3 := qa_keptL h_q3 ho9
  have h_q4 := qa_keptL h_q4 ho9
  have h_q5 := qa_keptL h_q5 ho9
  have h_q6 := hat9
  have l_q6 : sz ≤ q6 := by rw [hq9]; exact Nat.le_trans (Nat.le_of_eq hsz.symm) (Nat.le_of_lt_succ (Nat.lt_succ_of_le (by have := hS.1; omega)))
  refine qn_putF (ci := 5) (C := RX5) (T := TX5) (N := 19) hx hb hts hin5 tyX5 tyX5_ok nmX5 hown hK hP hS (Or.inl rfl) rfl 7 (by decide) (hts (.fieldLink RX5 25 "QuorumLockModel" "inquiries" "[I") (by decide +kernel)) rfl hin9 rfl rfl rfl (Nat.le_of_ble_eq_true rfl) dX5_init_49 (fun H locs hz9 ho9 hat9 hS => ?_)
  have hP : va_at dd vwCl (h0, .inr (5, [.int 0, .int 0, .ref q1, .ref q2, .ref q3, .ref q4, .ref q5, .ref q6, .null, .null, .null, .null, .null, .null, .null, .null, .null, .null, .int 0])) H := hat9
  have h_q1 := qa_kept h_q1 (ho9 _ (by omega))
  have h_q2 := qa_kept h_q2 (ho9 _ (by omega))
  have h_q3 := qa_kept h_q3 (ho9 _ (by omega))
  have h_q4 := qa_kept h_q4 (ho9 _ (by omega))
  have h_q5 := qa_kept h_q5 (ho9 _ (by omega))
  have h_q6 := qa_kept h_q6 (ho9 _ (by omega))
  refine lv_aload_n hx hb dX5_init_52 rfl (lv_at hl 0 rfl) ?_
  refine lv_bipush (v := nI 16) hx hb dX5_init_53 (by decide) ?_
  refine qn_newi hx hb (hts (.arrayClass .int) (by decide +kernel)) hK hS (16) (by decide) rfl (by show _ ≤ 16; omega) (by show _ ≤ 51616; omega) dX5_init_55 (fun q7 H hq9 hz9 ho9 hat9 hS => ?_)
  have o_q7 : q6 < q7 := by rw [hq9]; exact qa_lt h_q6
  have hP := qa_keptL hP ho9
  have h_q1 := qa_keptL h_q1 ho9
  have h_q2 := qa_keptL h_q2 ho9
  have h_q3 := qa_keptL h_q3 ho9
  have h_q4 := qa_keptL h_q4 ho9
  have h_q5 := qa_keptL h_q5 ho9
  have h_q6 := qa_keptL h_q6 ho9
  have h_q7 := hat9
  have l_q7 : sz ≤ q7 := by rw [hq9]; exact Nat.le_trans (Nat.le_of_eq hsz.symm) (Nat.le_of_lt_succ (Nat.lt_succ_of_le (by have := hS.1; omega)))
  refine qn_putF (ci := 5) (C := RX5) (T := TX5) (N := 19) hx hb hts hin5 tyX5 tyX5_ok nmX5 hown hK hP hS (Or.inl rfl) rfl 8 (by decide) (hts (.fieldLink RX5 28 "QuorumLockModel" "lent" "[I") (by decide +kernel)) rfl hin9 rfl rfl rfl (Nat.le_of_ble_eq_true rfl) dX5_init_57 (fun H locs hz9 ho9 hat9 hS => ?_)
  have hP : va_at dd vwCl (h0, .inr (5, [.int 0, .int 0, .ref q1, .ref q2, .ref q3, .ref q4, .ref q5, .ref q6, .ref q7, .null, .null, .null, .null, .null, .null, .null, .null, .null, .int 0])) H := hat9
  have h_q1 := qa_kept h_q1 (ho9 _ (by omega))
  have h_q2 := qa_kept h_q2 (ho9 _ (by omega))
  have h_q3 := qa_kept h_q3 (ho9 _ (by omega))
  have h_q4 := qa_kept h_q4 (ho9 _ (by omega))
  have h_q5 := qa_kept h_q5 (ho9 _ (by omega))
  have h_q6 := qa_kept h_q6 (ho9 _ (by omega))
  have h_q7 := qa_kept h_q7 (ho9 _ (by omega))
  refine lv_aload_n hx hb dX5_init_60 rfl (lv_at hl 0 rfl) ?_
  refine lv_bipush (v := nI 16) hx hb dX5_init_61 (by decide) ?_
  refine qn_newi hx hb (hts (.arrayClass .int) (by decide +kernel)) hK hS (16) (by decide) rfl (by show _ ≤ 16; omega) (by show _ ≤ 51616; omega) dX5_init_63 (fun q8 H hq9 hz9 ho9 hat9 hS => ?_)
  have o_q8 : q7 < q8 := by rw [hq9]; exact qa_lt h_q7
  have hP := qa_keptL hP ho9
  have h_q1 := qa_keptL h_q1 ho9
  have h_q2 := qa_keptL h_q2 ho9
  have h_q3 := qa_keptL h_q3 ho9
  have h_q4 := qa_keptL h_q4 ho9
  have h_q5 := qa_keptL h_q5 ho9
  have h_q6 := qa_keptL h_q6 ho9
  have h_q7 := qa_keptL h_q7 ho9
  have h_q8 := hat9
  have l_q8 : sz ≤ q8 := by rw [hq9]; exact Nat.le_trans (Nat.le_of_eq hsz.symm) (Nat.le_of_lt_succ (Nat.lt_succ_of_le (by have := hS.1; omega)))
  refine qn_putF (ci := 5) (C := RX5) (T := TX5) (N := 19) hx hb hts hin5 tyX5 tyX5_ok nmX5 hown hK hP hS (Or.inl rfl) rfl 9 (by decide) (hts (.fieldLink RX5 31 "QuorumLockModel" "lentTime" "[I") (by decide +kernel)) rfl hin9 rfl rfl rfl (Nat.le_of_ble_eq_true rfl) dX5_init_65 (fun H locs hz9 ho9 hat9 hS => ?_)
  have hP : va_at dd vwCl (h0, .inr (5, [.int 0, .int 0, .ref q1, .ref q2, .ref q3, .ref q4, .ref q5, .ref q6, .ref q7, .ref q8, .null, .null, .null, .null, .null, .null, .null, .null, .int 0])) H := hat9
  have h_q1 := qa_kept h_q1 (ho9 _ (by omega))
  have h_q2 := qa_kept h_q2 (ho9 _ (by omega))
  have h_q3 := qa_kept h_q3 (ho9 _ (by omega))
  have h_q4 := qa_kept h_q4 (ho9 _ (by omega))
  have h_q5 := qa_kept h_q5 (ho9 _ (by omega))
  have h_q6 := qa_kept h_q6 (ho9 _ (by omega))
  have h_q7 := qa_kept h_q7 (ho9 _ (by omega))
  have h_q8 := qa_kept h_q8 (ho9 _ (by omega))
  refine lv_aload_n hx hb dX5_init_68 rfl (lv_at hl 0 rfl) ?_
  refine lv_bipush (v := nI 16) hx hb dX5_init_69 (by decide) ?_
  refine qn_newz hx hb (hts (.arrayClass .boolean) (by decide +kernel)) hK hS (16) (by decide) rfl (by show _ ≤ 16; omega) (by show _ ≤ 51616; omega) dX5_init_71 (fun q9 H hq9 hz9 ho9 hat9 hS => ?_)
  have o_q9 : q8 < q9 := by rw [hq9]; exact qa_lt h_q8
  have hP := qa_keptL hP ho9
  have h_q1 := qa_keptL h_q1 ho9
  have h_q2 := qa_keptL h_q2 ho9
  have h_q3 := qa_keptL h_q3 ho9
  have h_q4 := qa_keptL h_q4 ho9
  have h_q5 := qa_keptL h_q5 ho9
  have h_q6 := qa_keptL h_q6 ho9
  have h_q7 := qa_keptL h_q7 ho9
  have h_q8 := qa_keptL h_q8 ho9
  have h_q9 := hat9
  have l_q9 : sz ≤ q9 := by rw [hq9]; exact Nat.le_trans (Nat.le_of_eq hsz.symm) (Nat.le_of_lt_succ (Nat.lt_succ_of_le (by have := hS.1; omega)))
  refine qn_putF (ci := 5) (C := RX5) (T := TX5) (N := 19) hx hb hts hin5 tyX5 tyX5_ok nmX5 hown hK hP hS (Or.inl rfl) rfl 10 (by decide) (hts (.fieldLink RX5 34 "QuorumLockModel" "inquired" "[Z") (by decide +kernel)) rfl hin9 rfl rfl rfl (Nat.le_of_ble_eq_true rfl) dX5_init_73 (fun H locs hz9 ho9 hat9 hS => ?_)
  have hP : va_at dd vwCl (h0, .inr (5, [.int 0, .int 0, .ref q1, .ref q2, .ref q3, .ref q4, .ref q5, .ref q6, .ref q7, .ref q8, .ref q9, .null, .null, .null, .null, .null, .null, .null, .int 0])) H := hat9
  have h_q1 := qa_kept h_q1 (ho9 _ (by omega))
  have h_q2 := qa_kept h_q2 (ho9 _ (by omega))
  have h_q3 := qa_kept h_q3 (ho9 _ (by omega))
  have h_q4 := qa_kept h_q4 (ho9 _ (by omega))
  have h_q5 := qa_kept h_q5 (ho9 _ (by omega))
  have h_q6 := qa_kept h_q6 (ho9 _ (by omega))
  have h_q7 := qa_kept h_q7 (ho9 _ (by omega))
  have h_q8 := qa_kept h_q8 (ho9 _ (by omega))
  have h_q9 := qa_kept h_q9 (ho9 _ (by omega))
  refine lv_aload_n hx hb dX5_init_76 rfl (lv_at hl 0 rfl) ?_
  refine lv_bipush (v := nI 16) hx hb dX5_init_77 (by decide) ?_
  refine qn_newi hx hb (hts (.arrayClass .int) (by decide +kernel)) hK hS (16) (by decide) rfl (by show _ ≤ 16; omega) (by show _ ≤ 51616; omega) dX5_init_79 (fun q10 H hq9 hz9 ho9 hat9 hS => ?_)
  have o_q10 : q9 < q10 := by rw [hq9]; exact qa_lt h_q9
  have hP := qa_keptL hP ho9
  have h_q1 := qa_keptL h_q1 ho9
  have h_q2 := qa_keptL h_q2 ho9
  have h_q3 := qa_keptL h_q3 ho9
  have h_q4 := qa_keptL h_q4 ho9
  have h_q5 := qa_keptL h_q5 ho9
  have h_q6 := qa_keptL h_q6 ho9
  have h_q7 := qa_keptL h_q7 ho9
  have h_q8 := qa_keptL h_q8 ho9
  have h_q9 := qa_keptL h_q9 ho9
  have h_q10 := hat9
  have l_q10 : sz ≤ q10 := by rw [hq9]; exact Nat.le_trans (Nat.le_of_eq hsz.symm) (Nat.le_of_lt_succ (Nat.lt_succ_of_le (by have := hS.1; omega)))
  refine qn_putF (ci := 5) (C := RX5) (T := TX5) (N := 19) hx hb hts hin5 tyX5 tyX5_ok nmX5 hown hK hP hS (Or.inl rfl) rfl 11 (by decide) (hts (.fieldLink RX5 38 "QuorumLockModel" "rows" "[I") (by decide +kernel)) rfl hin9 rfl rfl rfl (Nat.le_of_ble_eq_true rfl) dX5_init_81 (fun H locs hz9 ho9 hat9 hS => ?_)
  have hP : va_at dd vwCl (h0, .inr (5, [.int 0, .int 0, .ref q1, .ref q2, .ref q3, .ref q4, .ref q5, .ref q6, .ref q7, .ref q8, .ref q9, .ref q10, .null, .null, .null, .null, .null, .null, .int 0])) H := hat9
  have h_q1 := qa_kept h_q1 (ho9 _ (by omega))
  have h_q2 := qa_kept h_q2 (ho9 _ (by omega))
  have h_q3 := qa_kept h_q3 (ho9 _ (by omega))
  have h_q4 := qa_kept h_q4 (ho9 _ (by omega))
  have h_q5 := qa_kept h_q5 (ho9 _ (by omega))
  have h_q6 := qa_kept h_q6 (ho9 _ (by omega))
  have h_q7 := qa_kept h_q7 (ho9 _ (by omega))
  have h_q8 := qa_kept h_q8 (ho9 _ (by omega))
  have h_q9 := qa_kept h_q9 (ho9 _ (by omega))
  have h_q10 := qa_kept h_q10 (ho9 _ (by omega))
  refine lv_aload_n hx hb dX5_init_84 rfl (lv_at hl 0 rfl) ?_
  refine lv_sipush (v := nI 1024) hx hb dX5_init_85 (by decide) ?_
  refine qn_newi hx hb (hts (.arrayClass .int) (by decide +kernel)) hK hS (1024) (by decide) rfl (by show _ ≤ 16; omega) (by show _ ≤ 51616; omega) dX5_init_88 (fun q11 H hq9 hz9 ho9 hat9 hS => ?_)
  have o_q11 : q10 < q11 := by rw [hq9]; exact qa_lt h_q10
  have hP := qa_keptL hP ho9
  have h_q1 := qa_keptL h_q1 ho9
  have h_q2 := qa_keptL h_q2 ho9
  have h_q3 := qa_keptL h_q3 ho9
  have h_q4 := qa_keptL h_q4 ho9
  have h_q5 := qa_keptL h_q5 ho9
  have h_q6 := qa_keptL h_q6 ho9
  have h_q7 := qa_keptL h_q7 ho9
  have h_q8 := qa_keptL h_q8 ho9
  have h_q9 := qa_keptL h_q9 ho9
  have h_q10 := qa_keptL h_q10 ho9
  have h_q11 := hat9
  have l_q11 : sz ≤ q11 := by rw [hq9]; exact Nat.le_trans (Nat.le_of_eq hsz.symm) (Nat.le_of_lt_succ (Nat.lt_succ_of_le (by have := hS.1; omega)))
  refine qn_putF (ci := 5) (C := RX5) (T := TX5) (N := 19) hx hb hts hin5 tyX5 tyX5_ok nmX5 hown hK hP hS (Or.inl rfl) rfl 12 (by decide) (hts (.fieldLink RX5 41 "QuorumLockModel" "rowNode" "[I") (by decide +kernel)) rfl hin9 rfl rfl rfl (Nat.le_of_ble_eq_true rfl) dX5_init_90 (fun H locs hz9 ho9 hat9 hS => ?_)
  have hP : va_at dd vwCl (h0, .inr (5, [.int 0, .int 0, .ref q1, .ref q2, .ref q3, .ref q4, .ref q5, .ref q6, .ref q7, .ref q8, .ref q9, .ref q10, .ref q11, .null, .null, .null, .null, .null, .int 0])) H := hat9
  have h_q1 := qa_kept h_q1 (ho9 _ (by omega))
  have h_q2 := qa_kept h_q2 (ho9 _ (by omega))
  have h_q3 := qa_kept h_q3 (ho9 _ (by omega))
  have h_q4 := qa_kept h_q4 (ho9 _ (by omega))
  have h_q5 := qa_kept h_q5 (ho9 _ (by omega))
  have h_q6 := qa_kept h_q6 (ho9 _ (by omega))
  have h_q7 := qa_kept h_q7 (ho9 _ (by omega))
  have h_q8 := qa_kept h_q8 (ho9 _ (by omega))
  have h_q9 := qa_kept h_q9 (ho9 _ (by omega))
  have h_q10 := qa_kept h_q10 (ho9 _ (by omega))
  have h_q11 := qa_kept h_q11 (ho9 _ (by omega))
  refine lv_aload_n hx hb dX5_init_93 rfl (lv_at hl 0 rfl) ?_
  refine lv_sipush (v := nI 1024) hx hb dX5_init_94 (by decide) ?_
  refine qn_newi hx hb (hts (.arrayClass .int) (by decide +kernel)) hK hS (1024) (by decide) rfl (by show _ ≤ 16; omega) (by show _ ≤ 51616; omega) dX5_init_97 (fun q12 H hq9 hz9 ho9 hat9 hS => ?_)
  have o_q12 : q11 < q12 := by rw [hq9]; exact qa_lt h_q11
  have hP := qa_keptL hP ho9
  have h_q1 := qa_keptL h_q1 ho9
  have h_q2 := qa_keptL h_q2 ho9
  have h_q3 := qa_keptL h_q3 ho9
  have h_q4 := qa_keptL h_q4 ho9
  have h_q5 := qa_keptL h_q5 ho9
  have h_q6 := qa_keptL h_q6 ho9
  have h_q7 := qa_keptL h_q7 ho9
  have h_q8 := qa_keptL h_q8 ho9
  have h_q9 := qa_keptL h_q9 ho9
  have h_q10 := qa_keptL h_q10 ho9
  have h_q11 := qa_keptL h_q11 ho9
  have h_q12 := hat9
  have l_q12 : sz ≤ q12 := by rw [hq9]; exact Nat.le_trans (Nat.le_of_eq hsz.symm) (Nat.le_of_lt_succ (Nat.lt_succ_of_le (by have := hS.1; omega)))
  refine qn_putF (ci := 5) (C := RX5) (T := TX5) (N := 19) hx hb hts hin5 tyX5 tyX5_ok nmX5 hown hK hP hS (Or.inl rfl) rfl 13 (by decide) (hts (.fieldLink RX5 44 "QuorumLockModel" "rowTime" "[I") (by decide +kernel)) rfl hin9 rfl rfl rfl (Nat.le_of_ble_eq_true rfl) dX5_init_99 (fun H locs hz9 ho9 hat9 hS => ?_)
  have hP : va_at dd vwCl (h0, .inr (5, [.int 0, .int 0, .ref q1, .ref q2, .ref q3, .ref q4, .ref q5, .ref q6, .ref q7, .ref q8, .ref q9, .ref q10, .ref q11, .ref q12, .null, .null, .null, .null, .int 0])) H := hat9
  have h_q1 := qa_kept h_q1 (ho9 _ (by omega))
  have h_q2 := qa_kept h_q2 (ho9 _ (by omega))
  have h_q3 := qa_kept h_q3 (ho9 _ (by omega))
  have h_q4 := qa_kept h_q4 (ho9 _ (by omega))
  have h_q5 := qa_kept h_q5 (ho9 _ (by omega))
  have h_q6 := qa_kept h_q6 (ho9 _ (by omega))
  have h_q7 := qa_kept h_q7 (ho9 _ (by omega))
  have h_q8 := qa_kept h_q8 (ho9 _ (by omega))
  have h_q9 := qa_kept h_q9 (ho9 _ (by omega))
  have h_q10 := qa_kept h_q10 (ho9 _ (by omega))
  have h_q11 := qa_kept h_q11 (ho9 _ (by omega))
  have h_q12 := qa_kept h_q12 (ho9 _ (by omega))
  refine lv_aload_n hx hb dX5_init_102 rfl (lv_at hl 0 rfl) ?_
  refine lv_sipush (v := nI 256) hx hb dX5_init_103 (by decide) ?_
  refine qn_newi hx hb (hts (.arrayClass .int) (by decide +kernel)) hK hS (256) (by decide) rfl (by show _ ≤ 16; omega) (by show _ ≤ 51616; omega) dX5_init_106 (fun q13 H hq9 hz9 ho9 hat9 hS => ?_)
  have o_q13 : q12 < q13 := by rw [hq9]; exact qa_lt h_q12
  have hP := qa_keptL hP ho9
  have h_q1 := qa_keptL h_q1 ho9
  have h_q2 := qa_keptL h_q2 ho9
  have h_q3 := qa_keptL h_q3 ho9
  have h_q4 := qa_keptL h_q4 ho9
  have h_q5 := qa_keptL h_q5 ho9
  have h_q6 := qa_keptL h_q6 ho9
  have h_q7 := qa_keptL h_q7 ho9
  have h_q8 := qa_keptL h_q8 ho9
  have h_q9 := qa_keptL h_q9 ho9
  have h_q10 := qa_keptL h_q10 ho9
  have h_q11 := qa_keptL h_q11 ho9
  have h_q12 := qa_keptL h_q12 ho9
  have h_q13 := hat9
  have l_q13 : sz ≤ q13 := by rw [hq9]; exact Nat.le_trans (Nat.le_of_eq hsz.symm) (Nat.le_of_lt_succ (Nat.lt_succ_of_le (by have := hS.1; omega)))
  refine qn_putF (ci := 5) (C := RX5) (T := TX5) (N := 19) hx hb hts hin5 tyX5 tyX5_ok nmX5 hown hK hP hS (Or.inl rfl) rfl 14 (by decide) (hts (.fieldLink RX5 47 "QuorumLockModel" "lying" "[I") (by decide +kernel)) rfl hin9 rfl rfl rfl (Nat.le_of_ble_eq_true rfl) dX5_init_108 (fun H locs hz9 ho9 hat9 hS => ?_)
  have hP : va_at dd vwCl (h0, .inr (5, [.int 0, .int 0, .ref q1, .ref q2, .ref q3, .ref q4, .ref q5, .ref q6, .ref q7, .ref q8, .ref q9, .ref q10, .ref q11, .ref q12, .ref q13, .null, .null, .null, .int 0])) H := hat9
  have h_q1 := qa_kept h_q1 (ho9 _ (by omega))
  have h_q2 := qa_kept h_q2 (ho9 _ (by omega))
  have h_q3 := qa_kept h_q3 (ho9 _ (by omega))
  have h_q4 := qa_kept h_q4 (ho9 _ (by omega))
  have h_q5 := qa_kept h_q5 (ho9 _ (by omega))
  have h_q6 := qa_kept h_q6 (ho9 _ (by omega))
  have h_q7 := qa_kept h_q7 (ho9 _ (by omega))
  have h_q8 := qa_kept h_q8 (ho9 _ (by omega))
  have h_q9 := qa_kept h_q9 (ho9 _ (by omega))
  have h_q10 := qa_kept h_q10 (ho9 _ (by omega))
  have h_q11 := qa_kept h_q11 (ho9 _ (by omega))
  have h_q12 := qa_kept h_q12 (ho9 _ (by omega))
  have h_q13 := qa_kept h_q13 (ho9 _ (by omega))
  refine lv_aload_n hx hb dX5_init_111 rfl (lv_at hl 0 rfl) ?_
  refine lv_sipush (v := nI 16384) hx hb dX5_init_112 (by decide) ?_
  refine qn_newi hx hb (hts (.arrayClass .int) (by decide +kernel)) hK hS (16384) (by decide) rfl (by show _ ≤ 16; omega) (by show _ ≤ 51616; omega) dX5_init_115 (fun q14 H hq9 hz9 ho9 hat9 hS => ?_)
  have o_q14 : q13 < q14 := by rw [hq9]; exact qa_lt h_q13
  have hP := qa_keptL hP ho9
  have h_q1 := qa_keptL h_q1 ho9
  have h_q2 := qa_keptL h_q2 ho9
  have h_q3 := qa_keptL h_q3 ho9
  have h_q4 := qa_keptL h_q4 ho9
  have h_q5 := qa_keptL h_q5 ho9
  have h_q6 := qa_keptL h_q6 ho9
  have h_q7 := qa_keptL h_q7 ho9
  have h_q8 := qa_keptL h_q8 ho9
  have h_q9 := qa_keptL h_q9 ho9
  have h_q10 := qa_keptL h_q10 ho9
  have h_q11 := qa_keptL h_q11 ho9
  have h_q12 := qa_keptL h_q12 ho9
  have h_q13 := qa_keptL h_q13 ho9
  have h_q14 := hat9
  have l_q14 : sz ≤ q14 := by rw [hq9]; exact Nat.le_trans (Nat.le_of_eq hsz.symm) (Nat.le_of_lt_succ (Nat.lt_succ_of_le (by have := hS.1; omega)))
  refine qn_putF (ci := 5) (C := RX5) (T := TX5) (N := 19) hx hb hts hin5 tyX5 tyX5_ok nmX5 hown hK hP hS (Or.inl rfl) rfl 15 (by decide) (hts (.fieldLink RX5 50 "QuorumLockModel" "kinds" "[I") (by decide +kernel)) rfl hin9 rfl rfl rfl (Nat.le_of_ble_eq_true rfl) dX5_init_117 (fun H locs hz9 ho9 hat9 hS => ?_)
  have hP : va_at dd vwCl (h0, .inr (5, [.int 0, .int 0, .ref q1, .ref q2, .ref q3, .ref q4, .ref q5, .ref q6, .ref q7, .ref q8, .ref q9, .ref q10, .ref q11, .ref q12, .ref q13, .ref q14, .null, .null, .int 0])) H := hat9
  have h_q1 := qa_kept h_q1 (ho9 _ (by omega))
  have h_q2 := qa_kept h_q2 (ho9 _ (by omega))
  have h_q3 := qa_kept h_q3 (ho9 _ (by omega))
  have h_q4 := qa_kept h_q4 (ho9 _ (by omega))
  have h_q5 := qa_kept h_q5 (ho9 _ (by omega))
  have h_q6 := qa_kept h_q6 (ho9 _ (by omega))
  have h_q7 := qa_kept h_q7 (ho9 _ (by omega))
  have h_q8 := qa_kept h_q8 (ho9 _ (by omega))
  have h_q9 := qa_kept h_q9 (ho9 _ (by omega))
  have h_q10 := qa_kept h_q10 (ho9 _ (by omega))
  have h_q11 := qa_kept h_q11 (ho9 _ (by omega))
  have h_q12 := qa_kept h_q12 (ho9 _ (by omega))
  have h_q13 := qa_kept h_q13 (ho9 _ (by omega))
  have h_q14 := qa_kept h_q14 (ho9 _ (by omega))
  refine lv_aload_n hx hb dX5_init_120 rfl (lv_at hl 0 rfl) ?_
  refine lv_sipush (v := nI 16384) hx hb dX5_init_121 (by decide) ?_
  refine qn_newi hx hb (hts (.arrayClass .int) (by decide +kernel)) hK hS (16384) (by decide) rfl (by show _ ≤ 16; omega) (by show _ ≤ 51616; omega) dX5_init_124 (fun q15 H hq9 hz9 ho9 hat9 hS => ?_)
  have o_q15 : q14 < q15 := by rw [hq9]; exact qa_lt h_q14
  have hP := qa_keptL hP ho9
  have h_q1 := qa_keptL h_q1 ho9
  have h_q2 := qa_keptL h_q2 ho9
  have h_q3 := qa_keptL h_q3 ho9
  have h_q4 := qa_keptL h_q4 ho9
  have h_q5 := qa_keptL h_q5 ho9
  have h_q6 := qa_keptL h_q6 ho9
  have h_q7 := qa_keptL h_q7 ho9
  have h_q8 := qa_keptL h_q8 ho9
  have h_q9 := qa_keptL h_q9 ho9
  have h_q10 := qa_keptL h_q10 ho9
  have h_q11 := qa_keptL h_q11 ho9
  have h_q12 := qa_keptL h_q12 ho9
  have h_q13 := qa_keptL h_q13 ho9
  have h_q14 := qa_keptL h_q14 ho9
  have h_q15 := hat9
  have l_q15 : sz ≤ q15 := by rw [hq9]; exact Nat.le_trans (Nat.le_of_eq hsz.symm) (Nat.le_of_lt_succ (Nat.lt_succ_of_le (by have := hS.1; omega)))
  refine qn_putF (ci := 5) (C := RX5) (T := TX5) (N := 19) hx hb hts hin5 tyX5 tyX5_ok nmX5 hown hK hP hS (Or.inl rfl) rfl 16 (by decide) (hts (.fieldLink RX5 53 "QuorumLockModel" "times" "[I") (by decide +kernel)) rfl hin9 rfl rfl rfl (Nat.le_of_ble_eq_true rfl) dX5_init_126 (fun H locs hz9 ho9 hat9 hS => ?_)
  have hP : va_at dd vwCl (h0, .inr (5, [.int 0, .int 0, .ref q1, .ref q2, .ref q3, .ref q4, .ref q5, .ref q6, .ref q7, .ref q8, .ref q9, .ref q10, .ref q11, .ref q12, .ref q13, .ref q14, .ref q15, .null, .int 0])) H := hat9
  have h_q1 := qa_kept h_q1 (ho9 _ (by omega))
  have h_q2 := qa_kept h_q2 (ho9 _ (by omega))
  have h_q3 := qa_kept h_q3 (ho9 _ (by omega))
  have h_q4 := qa_kept h_q4 (ho9 _ (by omega))
  have h_q5 := qa_kept h_q5 (ho9 _ (by omega))
  have h_q6 := qa_kept h_q6 (ho9 _ (by omega))
  have h_q7 := qa_kept h_q7 (ho9 _ (by omega))
  have h_q8 := qa_kept h_q8 (ho9 _ (by omega))
  have h_q9 := qa_kept h_q9 (ho9 _ (by omega))
  have h_q10 := qa_kept h_q10 (ho9 _ (by omega))
  have h_q11 := qa_kept h_q11 (ho9 _ (by omega))
  have h_q12 := qa_kept h_q12 (ho9 _ (by omega))
  have h_q13 := qa_kept h_q13 (ho9 _ (by omega))
  have h_q14 := qa_kept h_q14 (ho9 _ (by omega))
  have h_q15 := qa_kept h_q15 (ho9 _ (by omega))
  refine lv_aload_n hx hb dX5_init_129 rfl (lv_at hl 0 rfl) ?_
  refine lv_sipush (v := nI 16384) hx hb dX5_init_130 (by decide) ?_
  refine qn_newi hx hb (hts (.arrayClass .int) (by decide +kernel)) hK hS (16384) (by decide) rfl (by show _ ≤ 16; omega) (by show _ ≤ 51616; omega) dX5_init_133 (fun q16 H hq9 hz9 ho9 hat9 hS => ?_)
  have o_q16 : q15 < q16 := by rw [hq9]; exact qa_lt h_q15
  have hP := qa_keptL hP ho9
  have h_q1 := qa_keptL h_q1 ho9
  have h_q2 := qa_keptL h_q2 ho9
  have h_q3 := qa_keptL h_q3 ho9
  have h_q4 := qa_keptL h_q4 ho9
  have h_q5 := qa_keptL h_q5 ho9
  have h_q6 := qa_keptL h_q6 ho9
  have h_q7 := qa_keptL h_q7 ho9
  have h_q8 := qa_keptL h_q8 ho9
  have h_q9 := qa_keptL h_q9 ho9
  have h_q10 := qa_keptL h_q10 ho9
  have h_q11 := qa_keptL h_q11 ho9
  have h_q12 := qa_keptL h_q12 ho9
  have h_q13 := qa_keptL h_q13 ho9
  have h_q14 := qa_keptL h_q14 ho9
  have h_q15 := qa_keptL h_q15 ho9
  have h_q16 := hat9
  have l_q16 : sz ≤ q16 := by rw [hq9]; exact Nat.le_trans (Nat.le_of_eq hsz.symm) (Nat.le_of_lt_succ (Nat.lt_succ_of_le (by have := hS.1; omega)))
  refine qn_putF (ci := 5) (C := RX5) (T := TX5) (N := 19) hx hb hts hin5 tyX5 tyX5_ok nmX5 hown hK hP hS (Or.inl rfl) rfl 17 (by decide) (hts (.fieldLink RX5 56 "QuorumLockModel" "clocks" "[I") (by decide +kernel)) rfl hin9 rfl rfl rfl (Nat.le_of_ble_eq_true rfl) dX5_init_135 (fun H locs hz9 ho9 hat9 hS => ?_)
  have hP : va_at dd vwCl (h0, .inr (5, [.int 0, .int 0, .ref q1, .ref q2, .ref q3, .ref q4, .ref q5, .ref q6, .ref q7, .ref q8, .ref q9, .ref q10, .ref q11, .ref q12, .ref q13, .ref q14, .ref q15, .ref q16, .int 0])) H := hat9
  have h_q1 := qa_kept h_q1 (ho9 _ (by omega))
  have h_q2 := qa_kept h_q2 (ho9 _ (by omega))
  have h_q3 := qa_kept h_q3 (ho9 _ (by omega))
  have h_q4 := qa_kept h_q4 (ho9 _ (by omega))
  have h_q5 := qa_kept h_q5 (ho9 _ (by omega))
  have h_q6 := qa_kept h_q6 (ho9 _ (by omega))
  have h_q7 := qa_kept h_q7 (ho9 _ (by omega))
  have h_q8 := qa_kept h_q8 (ho9 _ (by omega))
  have h_q9 := qa_kept h_q9 (ho9 _ (by omega))
  have h_q10 := qa_kept h_q10 (ho9 _ (by omega))
  have h_q11 := qa_kept h_q11 (ho9 _ (by omega))
  have h_q12 := qa_kept h_q12 (ho9 _ (by omega))
  have h_q13 := qa_kept h_q13 (ho9 _ (by omega))
  have h_q14 := qa_kept h_q14 (ho9 _ (by omega))
  have h_q15 := qa_kept h_q15 (ho9 _ (by omega))
  have h_q16 := qa_kept h_q16 (ho9 _ (by omega))
  refine lv_aload_n hx hb dX5_init_138 rfl (lv_at hl 0 rfl) ?_
  refine lv_iload_n hx hb dX5_init_139 rfl (lv_at hl 1 rfl) ?_
  refine lv_iconst (v := 1) hx hb dX5_init_140 (by decide) ?_
  refine lv_icmp_ge (tgt := 148) hx hb dX5_init_141 (by decide) (fun c_141 => ?_) (fun c_141 => ?_)
  · refine lv_iload_n hx hb dX5_init_148 rfl (lv_at hl 1 rfl) ?_
    refine lv_iconst (v := 4) hx hb dX5_init_149 (by decide) ?_
    refine lv_icmp_le (tgt := 157) hx hb dX5_init_150 (by decide) (fun c_150 => ?_) (fun c_150 => ?_)
    · have ek : x = nI (q_kk x) := q_kk_v (Int32.not_lt.mpr c_141) (Int32.not_lt.mpr c_150)
      refine lv_iload_n hx hb dX5_init_157 rfl (lv_at hl 1 rfl) ?_
      refine q_ti (y := nI (q_kk x)) ek ?_
      refine qn_putF (ci := 5) (C := RX5) (T := TX5) (N := 19) hx hb hts hin5 tyX5 tyX5_ok nmX5 hown hK hP hS (Or.inl rfl) rfl 0 (by decide) (hts (.fieldLink RX5 59 "QuorumLockModel" "k" "I") (by decide +kernel)) rfl hin9 rfl rfl rfl (Nat.le_of_ble_eq_true rfl) dX5_init_158 (fun H locs hz9 ho9 hat9 hS => ?_)
      have hP : va_at dd vwCl (h0, .inr (5, [.int (nI (q_kk x)), .int 0, .ref q1, .ref q2, .ref q3, .ref q4, .ref q5, .ref q6, .ref q7, .ref q8, .ref q9, .ref q10, .ref q11, .ref q12, .ref q13, .ref q14, .ref q15, .ref q16, .int 0])) H := hat9
      have h_q1 := qa_kept h_q1 (ho9 _ (by omega))
      have h_q2 := qa_kept h_q2 (ho9 _ (by omega))
      have h_q3 := qa_kept h_q3 (ho9 _ (by omega))
      have h_q4 := qa_kept h_q4 (ho9 _ (by omega))
      have h_q5 := qa_kept h_q5 (ho9 _ (by omega))
      have h_q6 := qa_kept h_q6 (ho9 _ (by omega))
      have h_q7 := qa_kept h_q7 (ho9 _ (by omega))
      have h_q8 := qa_kept h_q8 (ho9 _ (by omega))
      have h_q9 := qa_kept h_q9 (ho9 _ (by omega))
      have h_q10 := qa_kept h_q10 (ho9 _ (by omega))
      have h_q11 := qa_kept h_q11 (ho9 _ (by omega))
      have h_q12 := qa_kept h_q12 (ho9 _ (by omega))
      have h_q13 := qa_kept h_q13 (ho9 _ (by omega))
      have h_q14 := qa_kept h_q14 (ho9 _ (by omega))
      have h_q15 := qa_kept h_q15 (ho9 _ (by omega))
      have h_q16 := qa_kept h_q16 (ho9 _ (by omega))
      refine lv_aload_n hx hb dX5_init_161 rfl (lv_at hl 0 rfl) ?_
      refine lv_aload_n hx hb dX5_init_162 rfl (lv_at hl 0 rfl) ?_
      refine qr_get (ci := 5) (C := RX5) (T := TX5) (N := 19) hx hb hts hin5 hown hK hP rfl 0 (by decide) (hts (.fieldLink RX5 59 "QuorumLockModel" "k" "I") (by decide +kernel)) rfl dX5_init_163 ?_
      refine lv_aload_n hx hb dX5_init_166 rfl (lv_at hl 0 rfl) ?_
      refine qr_get (ci := 5) (C := RX5) (T := TX5) (N := 19) hx hb hts hin5 hown hK hP rfl 0 (by decide) (hts (.fieldLink RX5 59 "QuorumLockModel" "k" "I") (by decide +kernel)) rfl dX5_init_167 ?_
      refine lv_imul hx hb dX5_init_170 ?_
      refine q_ti (y := nI (q_kk x * q_kk x)) (pk_mul _ _) ?_
      refine qn_putF (ci := 5) (C := RX5) (T := TX5) (N := 19) hx hb hts hin5 tyX5 tyX5_ok nmX5 hown hK hP hS (Or.inl rfl) rfl 1 (by decide) (hts (.fieldLink RX5 63 "QuorumLockModel" "n" "I") (by decide +kernel)) rfl hin9 rfl rfl rfl (Nat.le_of_ble_eq_true rfl) dX5_init_171 (fun H locs hz9 ho9 hat9 hS => ?_)
      have hP : va_at dd vwCl (h0, .inr (5, [.int (nI (q_kk x)), .int (nI (q_kk x * q_kk x)), .ref q1, .ref q2, .ref q3, .ref q4, .ref q5, .ref q6, .ref q7, .ref q8, .ref q9, .ref q10, .ref q11, .ref q12, .ref q13, .ref q14, .ref q15, .ref q16, .int 0])) H := hat9
      have h_q1 := qa_kept h_q1 (ho9 _ (by omega))
      have h_q2 := qa_kept h_q2 (ho9 _ (by omega))
      have h_q3 := qa_kept h_q3 (ho9 _ (by omega))
      have h_q4 := qa_kept h_q4 (ho9 _ (by omega))
      have h_q5 := qa_kept h_q5 (ho9 _ (by omega))
      have h_q6 := qa_kept h_q6 (ho9 _ (by omega))
      have h_q7 := qa_kept h_q7 (ho9 _ (by omega))
      have h_q8 := qa_kept h_q8 (ho9 _ (by omega))
      have h_q9 := qa_kept h_q9 (ho9 _ (by omega))
      have h_q10 := qa_kept h_q10 (ho9 _ (by omega))
      have h_q11 := qa_kept h_q11 (ho9 _ (by omega))
      have h_q12 := qa_kept h_q12 (ho9 _ (by omega))
      have h_q13 := qa_kept h_q13 (ho9 _ (by omega))
      have h_q14 := qa_kept h_q14 (ho9 _ (by omega))
      have h_q15 := qa_kept h_q15 (ho9 _ (by omega))
      have h_q16 := qa_kept h_q16 (ho9 _ (by omega))
      refine lv_aload_n hx hb dX5_init_174 rfl (lv_at hl 0 rfl) ?_
      obtain ⟨ar, a0, a1, a2, a3, a4, a5, a6, a7, a8, a9, a10, a11, a12, a13, a14, a15, a16, hLr⟩ := q_ar17 o_q1 o_q2 o_q3 o_q4 o_q5 o_q6 o_q7 o_q8 o_q9 o_q10 o_q11 o_q12 o_q13 o_q14 o_q15 o_q16
      have hge : ∀ a : Nat, 1 ≤ a → a ≤ 16 → sz ≤ ar a := by
        intro a h1 h2
        rcases (show a = 1 ∨ a = 2 ∨ a = 3 ∨ a = 4 ∨ a = 5 ∨ a = 6 ∨ a = 7 ∨ a = 8 ∨ a = 9 ∨ a = 10 ∨ a = 11 ∨ a = 12 ∨ a = 13 ∨ a = 14 ∨ a = 15 ∨ a = 16 by omega) with h | h | h | h | h | h | h | h | h | h | h | h | h | h | h | h <;> subst h
        · rw [a1]; exact l_q1
        · rw [a2]; exact l_q2
        · rw [a3]; exact l_q3
        · rw [a4]; exact l_q4
        · rw [a5]; exact l_q5
        · rw [a6]; exact l_q6
        · rw [a7]; exact l_q7
        · rw [a8]; exact l_q8
        · rw [a9]; exact l_q9
        · rw [a10]; exact l_q10
        · rw [a11]; exact l_q11
        · rw [a12]; exact l_q12
        · rw [a13]; exact l_q13
        · rw [a14]; exact l_q14
        · rw [a15]; exact l_q15
        · rw [a16]; exact l_q16
      have hR0 : qR0 dd ga (q_kk x * q_kk x) (q_kk x) ar (fun _ _ => 0) 0 H := by
        refine ⟨by rw [a0, a1, a2, a3, a4, a5, a6, a7, a8, a9, a10, a11, a12, a13, a14, a15, a16]; exact hP, fun a h1 h2 => ?_⟩
        rcases (show a = 1 ∨ a = 2 ∨ a = 3 ∨ a = 4 ∨ a = 5 ∨ a = 6 ∨ a = 7 ∨ a = 8 ∨ a = 9 ∨ a = 10 ∨ a = 11 ∨ a = 12 ∨ a = 13 ∨ a = 14 ∨ a = 15 ∨ a = 16 by omega) with h | h | h | h | h | h | h | h | h | h | h | h | h | h | h | h <;> subst h
        · rw [a1]; exact h_q1
        · rw [a2]; exact h_q2
        · rw [a3]; exact h_q3
        · rw [a4]; exact h_q4
        · rw [a5]; exact h_q5
        · rw [a6]; exact h_q6
        · rw [a7]; exact h_q7
        · rw [a8]; exact h_q8
        · rw [a9]; exact h_q9
        · rw [a10]; exact h_q10
        · rw [a11]; exact h_q11
        · rw [a12]; exact h_q12
        · rw [a13]; exact h_q13
        · rw [a14]; exact h_q14
        · rw [a15]; exact h_q15
        · rw [a16]; exact h_q16
      refine W.eq (g2 := F0 m 175 ls [.ref (ar 0)]) (by rw [a0]) ?_
      refine qcall_v (va_runV (As := []) (rest := []) ⟨hx, hb, hml, hown, hts⟩ (c_X5_init_ l dd ga (q_kk x * q_kk x) (q_kk x) ar (fun _ _ => 0) 0 hsq hLr) (cwV 0 hts gX5_init_X5_init_ rfl rfl rfl (by decide +kernel) ⟨Nat.le_of_ble_eq_true rfl, Nat.le_of_ble_eq_true rfl⟩) (qpreV hK hR0 hR0.self rfl) rfl rfl hl.1 rfl (lv_room (Nat.le_of_ble_eq_true rfl)) dX5_init_175 ⟨by show _ ≤ 16; omega, by show _ ≤ 51616; omega⟩) hS (fun z h => by obtain ⟨a, ha, e⟩ := h; rcases Nat.eq_zero_or_pos a with h | h; (left; rw [e, h, a0]); right; rw [e]; exact hge a h ha) (fun H locs hp9 hz9 ho9 hS => ?_)
      refine W.widen (k := 16) (n := 51616) (by omega) (by omega) ?_
      exact q_aret hx hb hr hlocks hS (⟨ar, hLr, a0, hge, hp9⟩) dX5_init_178
    · have ek : (4 : Int32) = nI (q_kk x) := by unfold q_kk; rw [if_neg (Int32.not_lt.mpr c_141), if_pos (Int32.not_le.mp c_150)]; rfl
      refine lv_iconst (v := 4) hx hb dX5_init_153 (by decide) ?_
      refine lv_goto (tgt := 158) hx hb dX5_init_154 (by decide) ?_
      refine q_ti (y := nI (q_kk x)) ek ?_
      refine qn_putF (ci := 5) (C := RX5) (T := TX5) (N := 19) hx hb hts hin5 tyX5 tyX5_ok nmX5 hown hK hP hS (Or.inl rfl) rfl 0 (by decide) (hts (.fieldLink RX5 59 "QuorumLockModel" "k" "I") (by decide +kernel)) rfl hin9 rfl rfl rfl (Nat.le_of_ble_eq_true rfl) dX5_init_158 (fun H locs hz9 ho9 hat9 hS => ?_)
      have hP : va_at dd vwCl (h0, .inr (5, [.int (nI (q_kk x)), .int 0, .ref q1, .ref q2, .ref q3, .ref q4, .ref q5, .ref q6, .ref q7, .ref q8, .ref q9, .ref q10, .ref q11, .ref q12, .ref q13, .ref q14, .ref q15, .ref q16, .int 0])) H := hat9
      have h_q1 := qa_kept h_q1 (ho9 _ (by omega))
      have h_q2 := qa_kept h_q2 (ho9 _ (by omega))
      have h_q3 := qa_kept h_q3 (ho9 _ (by omega))
      have h_q4 := qa_kept h_q4 (ho9 _ (by omega))
      have h_q5 := qa_kept h_q5 (ho9 _ (by omega))
      have h_q6 := qa_kept h_q6 (ho9 _ (by omega))
      have h_q7 := qa_kept h_q7 (ho9 _ (by omega))
      have h_q8 := qa_kept h_q8 (ho9 _ (by omega))
      have h_q9 := qa_kept h_q9 (ho9 _ (by omega))
      have h_q10 := qa_kept h_q10 (ho9 _ (by omega))
      have h_q11 := qa_kept h_q11 (ho9 _ (by omega))
      have h_q12 := qa_kept h_q12 (ho9 _ (by omega))
      have h_q13 := qa_kept h_q13 (ho9 _ (by omega))
      have h_q14 := qa_kept h_q14 (ho9 _ (by omega))
      have h_q15 := qa_kept h_q15 (ho9 _ (by omega))
      have h_q16 := qa_kept h_q16 (ho9 _ (by omega))
      refine lv_aload_n hx hb dX5_init_161 rfl (lv_at hl 0 rfl) ?_
      refine lv_aload_n hx hb dX5_init_162 rfl (lv_at hl 0 rfl) ?_
      refine qr_get (ci := 5) (C := RX5) (T := TX5) (N := 19) hx hb hts hin5 hown hK hP rfl 0 (by decide) (hts (.fieldLink RX5 59 "QuorumLockModel" "k" "I") (by decide +kernel)) rfl dX5_init_163 ?_
      refine lv_aload_n hx hb dX5_init_166 rfl (lv_at hl 0 rfl) ?_
      refine qr_get (ci := 5) (C := RX5) (T := TX5) (N := 19) hx hb hts hin5 hown hK hP rfl 0 (by decide) (hts (.fieldLink RX5 59 "QuorumLockModel" "k" "I") (by decide +kernel)) rfl dX5_init_167 ?_
      refine lv_imul hx hb dX5_init_170 ?_
      refine q_ti (y := nI (q_kk x * q_kk x)) (pk_mul _ _) ?_
      refine qn_putF (ci := 5) (C := RX5) (T := TX5) (N := 19) hx hb hts hin5 tyX5 tyX5_ok nmX5 hown hK hP hS (Or.inl rfl) rfl 1 (by decide) (hts (.fieldLink RX5 63 "QuorumLockModel" "n" "I") (by decide +kernel)) rfl hin9 rfl rfl rfl (Nat.le_of_ble_eq_true rfl) dX5_init_171 (fun H locs hz9 ho9 hat9 hS => ?_)
      have hP : va_at dd vwCl (h0, .inr (5, [.int (nI (q_kk x)), .int (nI (q_kk x * q_kk x)), .ref q1, .ref q2, .ref q3, .ref q4, .ref q5, .ref q6, .ref q7, .ref q8, .ref q9, .ref q10, .ref q11, .ref q12, .ref q13, .ref q14, .ref q15, .ref q16, .int 0])) H := hat9
      have h_q1 := qa_kept h_q1 (ho9 _ (by omega))
      have h_q2 := qa_kept h_q2 (ho9 _ (by omega))
      have h_q3 := qa_kept h_q3 (ho9 _ (by omega))
      have h_q4 := qa_kept h_q4 (ho9 _ (by omega))
      have h_q5 := qa_kept h_q5 (ho9 _ (by omega))
      have h_q6 := qa_kept h_q6 (ho9 _ (by omega))
      have h_q7 := qa_kept h_q7 (ho9 _ (by omega))
      have h_q8 := qa_kept h_q8 (ho9 _ (by omega))
      have h_q9 := qa_kept h_q9 (ho9 _ (by omega))
      have h_q10 := qa_kept h_q10 (ho9 _ (by omega))
      have h_q11 := qa_kept h_q11 (ho9 _ (by omega))
      have h_q12 := qa_kept h_q12 (ho9 _ (by omega))
      have h_q13 := qa_kept h_q13 (ho9 _ (by omega))
      have h_q14 := qa_kept h_q14 (ho9 _ (by omega))
      have h_q15 := qa_kept h_q15 (ho9 _ (by omega))
      have h_q16 := qa_kept h_q16 (ho9 _ (by omega))
      refine lv_aload_n hx hb dX5_init_174 rfl (lv_at hl 0 rfl) ?_
      obtain ⟨ar, a0, a1, a2, a3, a4, a5, a6, a7, a8, a9, a10, a11, a12, a13, a14, a15, a16, hLr⟩ := q_ar17 o_q1 o_q2 o_q3 o_q4 o_q5 o_q6 o_q7 o_q8 o_q9 o_q10 o_q11 o_q12 o_q13 o_q14 o_q15 o_q16
      have hge : ∀ a : Nat, 1 ≤ a → a ≤ 16 → sz ≤ ar a := by
        intro a h1 h2
        rcases (show a = 1 ∨ a = 2 ∨ a = 3 ∨ a = 4 ∨ a = 5 ∨ a = 6 ∨ a = 7 ∨ a = 8 ∨ a = 9 ∨ a = 10 ∨ a = 11 ∨ a = 12 ∨ a = 13 ∨ a = 14 ∨ a = 15 ∨ a = 16 by omega) with h | h | h | h | h | h | h | h | h | h | h | h | h | h | h | h <;> subst h
        · rw [a1]; exact l_q1
        · rw [a2]; exact l_q2
        · rw [a3]; exact l_q3
        · rw [a4]; exact l_q4
        · rw [a5]; exact l_q5
        · rw [a6]; exact l_q6
        · rw [a7]; exact l_q7
        · rw [a8]; exact l_q8
        · rw [a9]; exact l_q9
        · rw [a10]; exact l_q10
        · rw [a11]; exact l_q11
        · rw [a12]; exact l_q12
        · rw [a13]; exact l_q13
        · rw [a14]; exact l_q14
        · rw [a15]; exact l_q15
        · rw [a16]; exact l_q16
      have hR0 : qR0 dd ga (q_kk x * q_kk x) (q_kk x) ar (fun _ _ => 0) 0 H := by
        refine ⟨by rw [a0, a1, a2, a3, a4, a5, a6, a7, a8, a9, a10, a11, a12, a13, a14, a15, a16]; exact hP, fun a h1 h2 => ?_⟩
        rcases (show a = 1 ∨ a = 2 ∨ a = 3 ∨ a = 4 ∨ a = 5 ∨ a = 6 ∨ a = 7 ∨ a = 8 ∨ a = 9 ∨ a = 10 ∨ a = 11 ∨ a = 12 ∨ a = 13 ∨ a = 14 ∨ a = 15 ∨ a = 16 by omega) with h | h | h | h | h | h | h | h | h | h | h | h | h | h | h | h <;> subst h
        · rw [a1]; exact h_q1
        · rw [a2]; exact h_q2
        · rw [a3]; exact h_q3
        · rw [a4]; exact h_q4
        · rw [a5]; exact h_q5
        · rw [a6]; exact h_q6
        · rw [a7]; exact h_q7
        · rw [a8]; exact h_q8
        · rw [a9]; exact h_q9
        · rw [a10]; exact h_q10
        · rw [a11]; exact h_q11
        · rw [a12]; exact h_q12
        · rw [a13]; exact h_q13
        · rw [a14]; exact h_q14
        · rw [a15]; exact h_q15
        · rw [a16]; exact h_q16
      refine W.eq (g2 := F0 m 175 ls [.ref (ar 0)]) (by rw [a0]) ?_
      refine qcall_v (va_runV (As := []) (rest := []) ⟨hx, hb, hml, hown, hts⟩ (c_X5_init_ l dd ga (q_kk x * q_kk x) (q_kk x) ar (fun _ _ => 0) 0 hsq hLr) (cwV 0 hts gX5_init_X5_init_ rfl rfl rfl (by decide +kernel) ⟨Nat.le_of_ble_eq_true rfl, Nat.le_of_ble_eq_true rfl⟩) (qpreV hK hR0 hR0.self rfl) rfl rfl hl.1 rfl (lv_room (Nat.le_of_ble_eq_true rfl)) dX5_init_175 ⟨by show _ ≤ 16; omega, by show _ ≤ 51616; omega⟩) hS (fun z h => by obtain ⟨a, ha, e⟩ := h; rcases Nat.eq_zero_or_pos a with h | h; (left; rw [e, h, a0]); right; rw [e]; exact hge a h ha) (fun H locs hp9 hz9 ho9 hS => ?_)
      refine W.widen (k := 16) (n := 51616) (by omega) (by omega) ?_
      exact q_aret hx hb hr hlocks hS (⟨ar, hLr, a0, hge, hp9⟩) dX5_init_178
  · have ek : (1 : Int32) = nI (q_kk x) := by unfold q_kk; rw [if_pos (Int32.not_le.mp c_141)]; rfl
    refine lv_iconst (v := 1) hx hb dX5_init_144 (by decide) ?_
    refine lv_goto (tgt := 158) hx hb dX5_init_145 (by decide) ?_
    refine q_ti (y := nI (q_kk x)) ek ?_
    refine qn_putF (ci := 5) (C := RX5) (T := TX5) (N := 19) hx hb hts hin5 tyX5 tyX5_ok nmX5 hown hK hP hS (Or.inl rfl) rfl 0 (by decide) (hts (.fieldLink RX5 59 "QuorumLockModel" "k" "I") (by decide +kernel)) rfl hin9 rfl rfl rfl (Nat.le_of_ble_eq_true rfl) dX5_init_158 (fun H locs hz9 ho9 hat9 hS => ?_)
    have hP : va_at dd vwCl (h0, .inr (5, [.int (nI (q_kk x)), .int 0, .ref q1, .ref q2, .ref q3, .ref q4, .ref q5, .ref q6, .ref q7, .ref q8, .ref q9, .ref q10, .ref q11, .ref q12, .ref q13, .ref q14, .ref q15, .ref q16, .int 0])) H := hat9
    have h_q1 := qa_kept h_q1 (ho9 _ (by omega))
    have h_q2 := qa_kept h_q2 (ho9 _ (by omega))
    have h_q3 := qa_kept h_q3 (ho9 _ (by omega))
    have h_q4 := qa_kept h_q4 (ho9 _ (by omega))
    have h_q5 := qa_kept h_q5 (ho9 _ (by omega))
    have h_q6 := qa_kept h_q6 (ho9 _ (by omega))
    have h_q7 := qa_kept h_q7 (ho9 _ (by omega))
    have h_q8 := qa_kept h_q8 (ho9 _ (by omega))
    have h_q9 := qa_kept h_q9 (ho9 _ (by omega))
    have h_q10 := qa_kept h_q10 (ho9 _ (by omega))
    have h_q11 := qa_kept h_q11 (ho9 _ (by omega))
    have h_q12 := qa_kept h_q12 (ho9 _ (by omega))
    have h_q13 := qa_kept h_q13 (ho9 _ (by omega))
    have h_q14 := qa_kept h_q14 (ho9 _ (by omega))
    have h_q15 := qa_kept h_q15 (ho9 _ (by omega))
    have h_q16 := qa_kept h_q16 (ho9 _ (by omega))
    refine lv_aload_n hx hb dX5_init_161 rfl (lv_at hl 0 rfl) ?_
    refine lv_aload_n hx hb dX5_init_162 rfl (lv_at hl 0 rfl) ?_
    refine qr_get (ci := 5) (C := RX5) (T := TX5) (N := 19) hx hb hts hin5 hown hK hP rfl 0 (by decide) (hts (.fieldLink RX5 59 "QuorumLockModel" "k" "I") (by decide +kernel)) rfl dX5_init_163 ?_
    refine lv_aload_n hx hb dX5_init_166 rfl (lv_at hl 0 rfl) ?_
    refine qr_get (ci := 5) (C := RX5) (T := TX5) (N := 19) hx hb hts hin5 hown hK hP rfl 0 (by decide) (hts (.fieldLink RX5 59 "QuorumLockModel" "k" "I") (by decide +kernel)) rfl dX5_init_167 ?_
    refine lv_imul hx hb dX5_init_170 ?_
    refine q_ti (y := nI (q_kk x * q_kk x)) (pk_mul _ _) ?_
    refine qn_putF (ci := 5) (C := RX5) (T := TX5) (N := 19) hx hb hts hin5 tyX5 tyX5_ok nmX5 hown hK hP hS (Or.inl rfl) rfl 1 (by decide) (hts (.fieldLink RX5 63 "QuorumLockModel" "n" "I") (by decide +kernel)) rfl hin9 rfl rfl rfl (Nat.le_of_ble_eq_true rfl) dX5_init_171 (fun H locs hz9 ho9 hat9 hS => ?_)
    have hP : va_at dd vwCl (h0, .inr (5, [.int (nI (q_kk x)), .int (nI (q_kk x * q_kk x)), .ref q1, .ref q2, .ref q3, .ref q4, .ref q5, .ref q6, .ref q7, .ref q8, .ref q9, .ref q10, .ref q11, .ref q12, .ref q13, .ref q14, .ref q15, .ref q16, .int 0])) H := hat9
    have h_q1 := qa_kept h_q1 (ho9 _ (by omega))
    have h_q2 := qa_kept h_q2 (ho9 _ (by omega))
    have h_q3 := qa_kept h_q3 (ho9 _ (by omega))
    have h_q4 := qa_kept h_q4 (ho9 _ (by omega))
    have h_q5 := qa_kept h_q5 (ho9 _ (by omega))
    have h_q6 := qa_kept h_q6 (ho9 _ (by omega))
    have h_q7 := qa_kept h_q7 (ho9 _ (by omega))
    have h_q8 := qa_kept h_q8 (ho9 _ (by omega))
    have h_q9 := qa_kept h_q9 (ho9 _ (by omega))
    have h_q10 := qa_kept h_q10 (ho9 _ (by omega))
    have h_q11 := qa_kept h_q11 (ho9 _ (by omega))
    have h_q12 := qa_kept h_q12 (ho9 _ (by omega))
    have h_q13 := qa_kept h_q13 (ho9 _ (by omega))
    have h_q14 := qa_kept h_q14 (ho9 _ (by omega))
    have h_q15 := qa_kept h_q15 (ho9 _ (by omega))
    have h_q16 := qa_kept h_q16 (ho9 _ (by omega))
    refine lv_aload_n hx hb dX5_init_174 rfl (lv_at hl 0 rfl) ?_
    obtain ⟨ar, a0, a1, a2, a3, a4, a5, a6, a7, a8, a9, a10, a11, a12, a13, a14, a15, a16, hLr⟩ := q_ar17 o_q1 o_q2 o_q3 o_q4 o_q5 o_q6 o_q7 o_q8 o_q9 o_q10 o_q11 o_q12 o_q13 o_q14 o_q15 o_q16
    have hge : ∀ a : Nat, 1 ≤ a → a ≤ 16 → sz ≤ ar a := by
      intro a h1 h2
      rcases (show a = 1 ∨ a = 2 ∨ a = 3 ∨ a = 4 ∨ a = 5 ∨ a = 6 ∨ a = 7 ∨ a = 8 ∨ a = 9 ∨ a = 10 ∨ a = 11 ∨ a = 12 ∨ a = 13 ∨ a = 14 ∨ a = 15 ∨ a = 16 by omega) with h | h | h | h | h | h | h | h | h | h | h | h | h | h | h | h <;> subst h
      · rw [a1]; exact l_q1
      · rw [a2]; exact l_q2
      · rw [a3]; exact l_q3
      · rw [a4]; exact l_q4
      · rw [a5]; exact l_q5
      · rw [a6]; exact l_q6
      · rw [a7]; exact l_q7
      · rw [a8]; exact l_q8
      · rw [a9]; exact l_q9
      · rw [a10]; exact l_q10
      · rw [a11]; exact l_q11
      · rw [a12]; exact l_q12
      · rw [a13]; exact l_q13
      · rw [a14]; exact l_q14
      · rw [a15]; exact l_q15
      · rw [a16]; exact l_q16
    have hR0 : qR0 dd ga (q_kk x * q_kk x) (q_kk x) ar (fun _ _ => 0) 0 H := by
      refine ⟨by rw [a0, a1, a2, a3, a4, a5, a6, a7, a8, a9, a10, a11, a12, a13, a14, a15, a16]; exact hP, fun a h1 h2 => ?_⟩
      rcases (show a = 1 ∨ a = 2 ∨ a = 3 ∨ a = 4 ∨ a = 5 ∨ a = 6 ∨ a = 7 ∨ a = 8 ∨ a = 9 ∨ a = 10 ∨ a = 11 ∨ a = 12 ∨ a = 13 ∨ a = 14 ∨ a = 15 ∨ a = 16 by omega) with h | h | h | h | h | h | h | h | h | h | h | h | h | h | h | h <;> subst h
      · rw [a1]; exact h_q1
      · rw [a2]; exact h_q2
      · rw [a3]; exact h_q3
      · rw [a4]; exact h_q4
      · rw [a5]; exact h_q5
      · rw [a6]; exact h_q6
      · rw [a7]; exact h_q7
      · rw [a8]; exact h_q8
      · rw [a9]; exact h_q9
      · rw [a10]; exact h_q10
      · rw [a11]; exact h_q11
      · rw [a12]; exact h_q12
      · rw [a13]; exact h_q13
      · rw [a14]; exact h_q14
      · rw [a15]; exact h_q15
      · rw [a16]; exact h_q16
    refine W.eq (g2 := F0 m 175 ls [.ref (ar 0)]) (by rw [a0]) ?_
    refine qcall_v (va_runV (As := []) (rest := []) ⟨hx, hb, hml, hown, hts⟩ (c_X5_init_ l dd ga (q_kk x * q_kk x) (q_kk x) ar (fun _ _ => 0) 0 hsq hLr) (cwV 0 hts gX5_init_X5_init_ rfl rfl rfl (by decide +kernel) ⟨Nat.le_of_ble_eq_true rfl, Nat.le_of_ble_eq_true rfl⟩) (qpreV hK hR0 hR0.self rfl) rfl rfl hl.1 rfl (lv_room (Nat.le_of_ble_eq_true rfl)) dX5_init_175 ⟨by show _ ≤ 16; omega, by show _ ≤ 51616; omega⟩) hS (fun z h => by obtain ⟨a, ha, e⟩ := h; rcases Nat.eq_zero_or_pos a with h | h; (left; rw [e, h, a0]); right; rw [e]; exact hge a h ha) (fun H locs hp9 hz9 ho9 hS => ?_)
    refine W.widen (k := 16) (n := 51616) (by omega) (by omega) ?_
    exact q_aret hx hb hr hlocks hS (⟨ar, hLr, a0, hge, hp9⟩) dX5_init_178
set_option maxHeartbeats 4000000 in
set_option maxRecDepth 100000 in
/-- X4_quorumOf -/
theorem c_X4_quorumOf (l : Launch) (dd : va_G) (ga : Nat → ClassId) (i k : Nat) (hk1 : 1 ≤ k) (hk4 : k ≤ 4) (hi : i < k * k) : Met l yX4_quorumOf wsX4_quorumOf ({ frames := 0, cells := 0, slots := 0, locals := 0 }) (qPc dd ga [.int (nI i), .int (nI k)] (fun H => True)) (qQi (fun v _ => v = q_quo k i (k * k)) (fun _ => False)) 0 0 (fun _ => False) := by
  refine Met.ofW (cc := cX4_quorumOf) (maxL := 4) (ret := (some .int)) (by decide) rfl ?_
  intro p e s m args below meth c s₁ B hml hv
  obtain ⟨rfl, hP, hK⟩ := hv
  have hx := B.exec
  have hb := B.bytes
  have hr := B.returns
  have hts := atoms_spec (ws := wsX4_quorumOf) B.pre
  have hown : s.vm.findClass RX4 = some m.cls := findClass_of_methodNamed B.named
  have hlocks := B.notSynchronized
  have hS : qS (fun _ => False) s.heap s.heap [] := qS.rf
  have hl := lv_entry ([.int (nI i), .int (nI k)]) (n := 4) (Nat.le_of_ble_eq_true rfl)
  rw [lg_entry_eq]
  generalize (lg_sl ([.int (nI i), .int (nI k)]) ++ List.replicate (4 - (lg_sl ([.int (nI i), .int (nI k)])).length) Slot.unset).toArray = ls at hl ⊢
  have hk16 : k * k ≤ 16 := Nat.mul_le_mul hk4 hk4
  have hloop : ∀ (c9 j9 : Nat) (ls : Array Slot), j9 + c9 = k * k → lv_has ls 4 [(3, .int (nI j9)), (2, .int (q_quo k i j9)), (0, .int (nI i)), (1, .int (nI k))] → W p l e (headSpec wsX4_quorumOf ({ frames := 0, cells := 0, slots := 0, locals := 0 })).room s m (([.int (nI i), .int (nI k)] : List Value).toArray) below meth c s.heap [] 0 0 (MQ below (qQi (fun v _ => v = q_quo k i (k * k)) (fun _ => False)) (([.int (nI i), .int (nI k)] : List Value).toArray) s 0 0 (fun _ => False)) (F0 m 4 ls []) := by
    intro c9
    induction c9 with
    | zero =>
      intro j9 ls hc hl
      refine lv_iload_n hx hb dX4_quorumOf_4 rfl (lv_at hl 0 rfl) ?_
      refine lv_iload_n hx hb dX4_quorumOf_5 rfl (lv_at hl 3 rfl) ?_
      refine lv_iload_n hx hb dX4_quorumOf_6 rfl (lv_at hl 3 rfl) ?_
      refine lv_imul hx hb dX4_quorumOf_7 ?_
      refine q_ti (y := nI (k * k)) (pk_mul _ _) ?_
      refine lv_icmp_ge (tgt := 41) hx hb dX4_quorumOf_8 (by decide) (fun c_8 => ?_) (fun c_8 => absurd (nI_le (show k * k ≤ j9 by omega) (by omega)) c_8)
      refine lv_iload_n hx hb dX4_quorumOf_41 rfl (lv_at hl 1 rfl) ?_
      exact q_iret hx hb hr hlocks hS (by rw [show j9 = k * k by omega]) dX4_quorumOf_42
    | succ c9 ih =>
      intro j9 ls hc hl
      have hd1 : j9 / k ≤ j9 := Nat.div_le_self _ _
      have hd2 : i / k ≤ i := Nat.div_le_self _ _
      have hd3 : j9 % k < k := Nat.mod_lt _ (by omega)
      have hd4 : i % k < k := Nat.mod_lt _ (by omega)
      refine lv_iload_n hx hb dX4_quorumOf_4 rfl (lv_at hl 0 rfl) ?_
      refine lv_iload_n hx hb dX4_quorumOf_5 rfl (lv_at hl 3 rfl) ?_
      refine lv_iload_n hx hb dX4_quorumOf_6 rfl (lv_at hl 3 rfl) ?_
      refine lv_imul hx hb dX4_quorumOf_7 ?_
      refine q_ti (y := nI (k * k)) (pk_mul _ _) ?_
      refine lv_icmp_ge (tgt := 41) hx hb dX4_quorumOf_8 (by decide) (fun c_8 => absurd c_8 (nI_ge (by omega) (by omega))) (fun c_8 => ?_)
      refine lv_iload_n hx hb dX4_quorumOf_11 rfl (lv_at hl 0 rfl) ?_
      refine lv_iload_n hx hb dX4_quorumOf_12 rfl (lv_at hl 3 rfl) ?_
      refine lv_idiv hx hb dX4_quorumOf_13 (nI_ne0 (by omega) (by omega)) ?_
      refine q_ti (y := nI (j9 / k)) (pk_div (by omega) (by omega) (by omega)) ?_
      refine lv_iload_n hx hb dX4_quorumOf_14 rfl (lv_at hl 2 rfl) ?_
      refine lv_iload_n hx hb dX4_quorumOf_15 rfl (lv_at hl 3 rfl) ?_
      refine lv_idiv hx hb dX4_quorumOf_16 (nI_ne0 (by omega) (by omega)) ?_
      refine q_ti (y := nI (i / k)) (pk_div (by omega) (by omega) (by omega)) ?_
      refine lv_icmp_eq (tgt := 29) hx hb dX4_quorumOf_17 (by decide) (fun c_17 => ?_) (fun c_17 => ?_)
      · have hq9 : j9 / k = i / k ∨ j9 % k = i % k := Or.inl ((nI_eq (by omega) (by omega)).mp c_17)
        refine lv_iload_n hx hb dX4_quorumOf_29 rfl (lv_at hl 1 rfl) ?_
        refine lv_iconst (v := 1) hx hb dX4_quorumOf_30 (by decide) ?_
        refine lv_iload_n hx hb dX4_quorumOf_31 rfl (lv_at hl 0 rfl) ?_
        refine lv_ishl hx hb dX4_quorumOf_32 ?_
        refine lv_ior hx hb dX4_quorumOf_33 ?_
        refine q_ti (y := q_quo k i (j9 + 1)) (by rw [q_quo, if_pos hq9]; rfl) ?_
        refine lv_istore_n (lv' := [(2, .int (q_quo k i (j9 + 1))), (3, .int (nI j9)), (0, .int (nI i)), (1, .int (nI k))]) hx hb dX4_quorumOf_34 rfl hl (by decide) rfl (fun ls hl => ?_)
        refine lv_iinc (v := nI (j9 + 1)) (lv' := [(3, .int (nI (j9 + 1))), (2, .int (q_quo k i (j9 + 1))), (0, .int (nI i)), (1, .int (nI k))]) hx hb dX4_quorumOf_35 hl (k := 1) rfl (nI_1 _) (by decide) rfl (fun ls hl => ?_)
        refine lv_goto (tgt := 4) hx hb dX4_quorumOf_38 (by decide) ?_
        exact ih (j9 + 1) ls (by omega) (lv_sub hl [0, 1, 2, 3] rfl)
      · refine lv_iload_n hx hb dX4_quorumOf_20 rfl (lv_at hl 0 rfl) ?_
        refine lv_iload_n hx hb dX4_quorumOf_21 rfl (lv_at hl 3 rfl) ?_
        refine lv_irem hx hb dX4_quorumOf_22 (nI_ne0 (by omega) (by omega)) ?_
        refine q_ti (y := nI (j9 % k)) (pk_rem (by omega) (by omega) (by omega)) ?_
        refine lv_iload_n hx hb dX4_quorumOf_23 rfl (lv_at hl 2 rfl) ?_
        refine lv_iload_n hx hb dX4_quorumOf_24 rfl (lv_at hl 3 rfl) ?_
        refine lv_irem hx hb dX4_quorumOf_25 (nI_ne0 (by omega) (by omega)) ?_
        refine q_ti (y := nI (i % k)) (pk_rem (by omega) (by omega) (by omega)) ?_
        refine lv_icmp_ne (tgt := 35) hx hb dX4_quorumOf_26 (by decide) (fun c_26 => ?_) (fun c_26 => ?_)
        · have hq9 : ¬ (j9 / k = i / k ∨ j9 % k = i % k) := fun h => h.elim (fun h => c_17 (by rw [h])) (fun h => c_26 (by rw [h]))
          have hqe : q_quo k i j9 = q_quo k i (j9 + 1) := by rw [q_quo, if_neg hq9, Int32.or_zero]
          refine lv_iinc (v := nI (j9 + 1)) (lv' := [(3, .int (nI (j9 + 1))), (2, .int (q_quo k i j9)), (0, .int (nI i)), (1, .int (nI k))]) hx hb dX4_quorumOf_35 hl (k := 0) rfl (nI_1 _) (by decide) rfl (fun ls hl => ?_)
          refine lv_goto (tgt := 4) hx hb dX4_quorumOf_38 (by decide) ?_
          rw [hqe] at hl
          exact ih (j9 + 1) ls (by omega) (lv_sub hl [0, 1, 2, 3] rfl)
        · have hq9 : j9 / k = i / k ∨ j9 % k = i % k := Or.inr ((nI_eq (by omega) (by omega)).mp c_26)
          refine lv_iload_n hx hb dX4_quorumOf_29 rfl (lv_at hl 1 rfl) ?_
          refine lv_iconst (v := 1) hx hb dX4_quorumOf_30 (by decide) ?_
          refine lv_iload_n hx hb dX4_quorumOf_31 rfl (lv_at hl 0 rfl) ?_
          refine lv_ishl hx hb dX4_quorumOf_32 ?_
          refine lv_ior hx hb dX4_quorumOf_33 ?_
          refine q_ti (y := q_quo k i (j9 + 1)) (by rw [q_quo, if_pos hq9]; rfl) ?_
          refine lv_istore_n (lv' := [(2, .int (q_quo k i (j9 + 1))), (3, .int (nI j9)), (0, .int (nI i)), (1, .int (nI k))]) hx hb dX4_quorumOf_34 rfl hl (by decide) rfl (fun ls hl => ?_)
          refine lv_iinc (v := nI (j9 + 1)) (lv' := [(3, .int (nI (j9 + 1))), (2, .int (q_quo k i (j9 + 1))), (0, .int (nI i)), (1, .int (nI k))]) hx hb dX4_quorumOf_35 hl (k := 1) rfl (nI_1 _) (by decide) rfl (fun ls hl => ?_)
          refine lv_goto (tgt := 4) hx hb dX4_quorumOf_38 (by decide) ?_
          exact ih (j9 + 1) ls (by omega) (lv_sub hl [0, 1, 2, 3] rfl)
  refine lv_iconst (v := 0) hx hb dX4_quorumOf_0 (by decide) ?_
  refine lv_istore_n (lv' := [(2, .int 0), (0, .int (nI i)), (1, .int (nI k))]) hx hb dX4_quorumOf_1 rfl hl (by decide) rfl (fun ls hl => ?_)
  refine lv_iconst (v := nI 0) hx hb dX4_quorumOf_2 (by decide) ?_
  refine lv_istore_n (lv' := [(3, .int (nI 0)), (2, .int 0), (0, .int (nI i)), (1, .int (nI k))]) hx hb dX4_quorumOf_3 rfl hl (by decide) rfl (fun ls hl => ?_)
  exact hloop (k * k) 0 ls (by omega) (lv_sub hl [0, 1, 2, 3] rfl)
