/-! BITS of sets -/
def bt (x : Int32) (i : Nat) : Bool := x.toBitVec.getLsbD i
theorem b_ext {x y : Int32} (h : ∀ i, i < 32 → bt x i = bt y i) : x = y := Int32.toBitVec_inj.mp (BitVec.eq_of_getLsbD_eq (fun i hi => h i hi))
theorem b_or (x y : Int32) (i : Nat) : bt (x ||| y) i = (bt x i || bt y i) := by unfold bt; rw [Int32.toBitVec_or, BitVec.getLsbD_or]
theorem b_and (x y : Int32) (i : Nat) : bt (x &&& y) i = (bt x i && bt y i) := by unfold bt; rw [Int32.toBitVec_and, BitVec.getLsbD_and]
theorem b_xor (x y : Int32) (i : Nat) : bt (x ^^^ y) i = (bt x i ^^ bt y i) := by unfold bt; rw [Int32.toBitVec_xor, BitVec.getLsbD_xor]
theorem b_m1 : ∀ i, i < 32 → bt (-1) i = true := by decide +kernel
theorem b_0 (i : Nat) : bt 0 i = false := BitVec.getLsbD_zero
theorem b_1 : ∀ i, i < 32 → bt 1 i = decide (i = 0) := by decide +kernel
theorem s_l : ∀ n, n < 32 → ((nI n &&& 31).toBitVec.smod 32).toNat = n := by decide +kernel
theorem b_sshr (n : Nat) (hn : n < 32) (x : Int32) {i : Nat} (hi : i < 32) : bt (x >>> (nI n &&& 31)) i = if n + i < 32 then bt x (n + i) else bt x 31 := by
  unfold bt
  rw [Int32.toBitVec_shiftRight]
  show (x.toBitVec.sshiftRight ((nI n &&& 31).toBitVec.smod 32).toNat).getLsbD i = _
  rw [s_l n hn, BitVec.getLsbD_sshiftRight, BitVec.msb_eq_getLsbD_last]
  simp [hi]
theorem b_bit : ∀ j, j < 32 → ∀ i, i < 32 → bt (q_bit j) i = decide (i = j) := by decide +kernel
theorem q_hasB {x : Int32} {j : Nat} (hj : j < 32) : q_has x j = bt x j := by
  have h0 : bt (x >>> (nI j &&& 31)) 0 = bt x j := by rw [b_sshr j hj x (by decide), if_pos (by omega), Nat.add_zero]
  have h1 : ((x >>> (nI j &&& 31)) &&& 1 = 1) ↔ bt (x >>> (nI j &&& 31)) 0 = true := by
    constructor
    · intro h
      have h2 := b_and (x >>> (nI j &&& 31)) 1 0
      rw [h, b_1 0 (by decide)] at h2
      simpa using h2.symm
    · intro h
      apply b_ext
      intro i hi
      rw [b_and, b_1 i hi]
      by_cases h3 : i = 0
      · subst h3; simp [h]
      · simp [h3]
  unfold q_has
  rw [h0] at h1
  cases hb : bt x j with
  | true => rw [hb] at h1; exact decide_eq_true (h1.mpr rfl)
  | false => rw [hb] at h1; exact decide_eq_false (fun h => by have := h1.mp h; cases this)
theorem h_or {x y : Int32} {j : Nat} (hj : j < 32) : q_has (x ||| y) j = (q_has x j || q_has y j) := by rw [q_hasB hj, q_hasB hj, q_hasB hj, b_or]
theorem h_and {x y : Int32} {j : Nat} (hj : j < 32) : q_has (x &&& y) j = (q_has x j && q_has y j) := by rw [q_hasB hj, q_hasB hj, q_hasB hj, b_and]
theorem h_0 {j : Nat} (hj : j < 32) : q_has 0 j = false := by rw [q_hasB hj, b_0]
theorem h_bit {i j : Nat} (hi : i < 32) (hj : j < 32) : q_has (q_bit j) i = decide (i = j) := by rw [q_hasB hi, b_bit j hj i hi]
theorem h_nbit {i j : Nat} (hi : i < 32) (hj : j < 32) : q_has (q_nbit j) i = !decide (i = j) := by rw [q_hasB hi, q_nbit, b_xor, b_bit j hj i hi, b_m1 i hi, Bool.xor_true]
theorem h_ext {x y : Int32} (h : ∀ i, i < 32 → q_has x i = q_has y i) : x = y := b_ext (fun i hi => by rw [← q_hasB hi, ← q_hasB hi]; exact h i hi)
def inQ (k i j : Nat) : Prop := j / k = i / k ∨ j % k = i % k
theorem inQ.symm {k i j : Nat} (h : inQ k i j) : inQ k j i := h.elim (fun h => Or.inl h.symm) (fun h => Or.inr h.symm)
theorem h_quo {k i : Nat} : ∀ {m : Nat}, m ≤ 32 → ∀ j, j < 32 → (q_has (q_quo k i m) j = true ↔ (j < m ∧ inQ k i j))
  | 0, _, j, hj => by
    rw [q_quo, h_0 hj]; simp
  | m + 1, hm, j, hj => by
    have ih := h_quo (k := k) (i := i) (m := m) (by omega) j hj
    rw [q_quo, h_or hj, Bool.or_eq_true, ih]
    by_cases hq : m / k = i / k ∨ m % k = i % k
    · rw [if_pos hq, h_bit hj (by omega), decide_eq_true_eq]
      constructor
      · rintro (⟨h1, h2⟩ | h1)
        · exact ⟨by omega, h2⟩
        · subst h1; exact ⟨by omega, hq⟩
      · rintro ⟨h1, h2⟩
        rcases Nat.lt_or_ge j m with h3 | h3
        · exact Or.inl ⟨h3, h2⟩
        · exact Or.inr (by omega)
    · rw [if_neg hq, h_0 hj]
      constructor
      · rintro (⟨h1, h2⟩ | h1)
        · exact ⟨by omega, h2⟩
        · cases h1
      · rintro ⟨h1, h2⟩
        rcases Nat.lt_or_ge j m with h3 | h3
        · exact Or.inl ⟨h3, h2⟩
        · have : j = m := by omega
          subst this
          exact absurd h2 hq
/-- a set within the quorum that has all of it -/
theorem h_full {k i n : Nat} {x : Int32} (hn : n ≤ 16) (hx : ∀ j, j < 32 → q_has x j = true → j < n ∧ inQ k i j) (h : x &&& q_quo k i n = q_quo k i n) : x = q_quo k i n := by
  apply h_ext
  intro j hj
  have h1 : q_has (x &&& q_quo k i n) j = q_has (q_quo k i n) j := by rw [h]
  rw [h_and hj] at h1
  cases hb : q_has x j with
  | true => exact ((h_quo (by omega) j hj).mpr (hx j hj hb)).symm
  | false => rw [hb, Bool.false_and] at h1; exact h1
/-! how many bits -/
def n_hd (m : Nat) : Nat :=
  let a := m - ((m / 2) &&& 1431655765)
  let b := (a &&& 858993459) + ((a / 4) &&& 858993459)
  let d := (b + b / 16) &&& 252645135
  let f := d + d / 256
  (f + f / 65536) &&& 63
def n_cnt (m : Nat) : Nat → Nat
  | 0 => 0
  | j + 1 => n_cnt m j + m / 2 ^ j % 2
def n_in (k i d : Nat) : Bool := decide (d < k * k) && (decide (d / k = i / k) || decide (d % k = i % k))
def n_chk (k i : Nat) : Nat → Nat → Bool
  | 0, m => decide (n_hd m = n_cnt m 16)
  | d + 1, m => n_chk k i d (2 * m) && (!(n_in k i d) || n_chk k i d (2 * m + 1))
theorem n_chk_all : ∀ k, k < 5 → ∀ i, i < 16 → i < k * k → n_chk k i 16 0 = true := by decide +kernel
theorem n_chk_sp {k i : Nat} : ∀ (d m : Nat), n_chk k i d m = true → ∀ x, x < 2 ^ d → (∀ j, x.testBit j = true → n_in k i j = true) → n_hd (2 ^ d * m + x) = n_cnt (2 ^ d * m + x) 16
  | 0, m, h, x, hx, _ => by
    have : x = 0 := by simpa using hx
    subst this
    simpa [n_chk] using h
  | d + 1, m, h, x, hx, hj => by
    unfold n_chk at h
    rw [Bool.and_eq_true, Bool.or_eq_true] at h
    have hp : 2 ^ (d + 1) = 2 * 2 ^ d := by rw [Nat.pow_succ, Nat.mul_comm]
    rcases Nat.lt_or_ge x (2 ^ d) with h1 | h1
    · have := n_chk_sp d (2 * m) h.1 x h1 hj
      rw [show 2 ^ (d + 1) * m + x = 2 ^ d * (2 * m) + x by rw [hp, Nat.mul_comm 2 (2 ^ d), Nat.mul_assoc]]
      exact this
    · obtain ⟨y, rfl⟩ : ∃ y, x = 2 ^ d + y := ⟨x - 2 ^ d, by omega⟩
      have hy : y < 2 ^ d := by omega
      have hd : n_in k i d = true := hj d (by rw [Nat.testBit_two_pow_add_eq, Nat.testBit_lt_two_pow hy]; rfl)
      have hc : n_chk k i d (2 * m + 1) = true := h.2.elim (fun h3 => by rw [hd] at h3; cases h3) id
      have := n_chk_sp d (2 * m + 1) hc y hy (fun j hyj => by
        rcases Nat.lt_or_ge j d with h4 | h4
        · exact hj j (by rw [Nat.testBit_two_pow_add_gt h4]; exact hyj)
        · rw [Nat.testBit_lt_two_pow (Nat.lt_of_lt_of_le hy (Nat.pow_le_pow_right (by decide) h4))] at hyj; cases hyj)
      rw [show 2 ^ (d + 1) * m + (2 ^ d + y) = 2 ^ d * (2 * m + 1) + y by rw [Nat.mul_add, hp, Nat.mul_comm 2 (2 ^ d), Nat.mul_assoc]; omega]
      exact this
theorem q_hd_n {m : Nat} (hm : m < 65536) : q_hd (nI m) = nI (n_hd m) := by
  have u : ∀ (a : Nat) (s : Int32) (d : Nat), a < 2 ^ 32 → ((s.toUInt32 &&& Int32.toUInt32 31).toBitVec % 32).toNat = d → q_ush (nI a) s = nI (a / 2 ^ d) := fun a s d h1 h2 => pk_ushrN h1 s d h2
  have an : ∀ a c : Nat, nI a &&& nI c = nI (a &&& c) := fun a c => by
    apply Int32.toBitVec_inj.1
    show BitVec.ofNat 32 a &&& BitVec.ofNat 32 c = BitVec.ofNat 32 (a &&& c)
    apply BitVec.eq_of_getLsbD_eq
    intro i hi
    simp [hi]
  have e1 : q_h1 (nI m) = nI (m - ((m / 2) &&& 1431655765)) := by
    unfold q_h1
    rw [u m 1 1 (by omega) (by decide), show (1431655765 : Int32) = nI 1431655765 from by decide, an]
    exact pk_sub (Nat.le_trans Nat.and_le_left (Nat.div_le_self _ _))
  generalize ha : m - ((m / 2) &&& 1431655765) = a at e1
  have hal : a < 65536 := by omega
  have e2 : q_h2 (nI a) = nI ((a &&& 858993459) + ((a / 4) &&& 858993459)) := by
    unfold q_h2
    rw [u a 2 2 (by omega) (by decide), show (858993459 : Int32) = nI 858993459 from by decide, an, an]
    exact nI_add _ _
  have hb1 : (a &&& 858993459) ≤ a := Nat.and_le_left
  have hb2 : ((a / 4) &&& 858993459) ≤ a / 4 := Nat.and_le_left
  generalize hb : (a &&& 858993459) + ((a / 4) &&& 858993459) = b at e2
  have hbl : b < 131072 := by omega
  have e3 : q_h3 (nI b) = nI ((b + b / 16) &&& 252645135) := by
    unfold q_h3
    rw [u b 4 4 (by omega) (by decide), nI_add, show (252645135 : Int32) = nI 252645135 from by decide, an]
  have hd1 : ((b + b / 16) &&& 252645135) ≤ b + b / 16 := Nat.and_le_left
  generalize hd : ((b + b / 16) &&& 252645135) = d at e3
  have e4 : q_h4 (nI d) = nI (d + d / 256) := by
    unfold q_h4
    rw [u d 8 8 (by omega) (by decide), nI_add]
  generalize hf : d + d / 256 = f at e4
  have e5 : q_h5 (nI f) = nI (f + f / 65536) := by
    unfold q_h5
    rw [u f 16 16 (by omega) (by decide), nI_add]
  unfold q_hd
  rw [e1, e2, e3, e4, e5, show (63 : Int32) = nI 63 from by decide, an]
  unfold n_hd
  simp only [ha, hb, hd, hf]
theorem q_cnt_n {m : Nat} (hm : m < 2 ^ 31) : ∀ j, j ≤ 32 → q_cnt (nI m) j = nI (n_cnt m j)
  | 0, _ => rfl
  | j + 1, hj => by
    unfold q_cnt n_cnt
    rw [q_cnt_n hm j (by omega), pk_shrN hm (nI j &&& 31) j (s_l j (by omega)), pk_andN (m := 1) (by have := Nat.div_le_self m (2 ^ j); omega) 1 (by decide), Nat.pow_one]
    exact nI_add _ _
theorem n_cnt_top {m n : Nat} (hm : m < 2 ^ n) : ∀ d, n_cnt m (n + d) = n_cnt m n
  | 0 => rfl
  | d + 1 => by
    show n_cnt m (n + d) + m / 2 ^ (n + d) % 2 = _
    have h1 : 2 ^ n ≤ 2 ^ (n + d) := Nat.pow_le_pow_right (by decide) (by omega)
    rw [n_cnt_top hm d, Nat.div_eq_of_lt (by omega)]
    rfl
theorem q_pop {x : Int32} {n k i : Nat} (hn : n = k * k) (hk : k ≤ 4) (hi : i < n) (hx : ∀ j, j < 32 → q_has x j = true → j < n ∧ inQ k i j) : q_hd x = q_cnt x n := by
  have hn16 : n ≤ 16 := by rw [hn]; exact Nat.mul_le_mul hk hk
  have hf : ∀ j, n ≤ j → x.toBitVec.toNat.testBit j = false := fun j hj => by
    rcases Nat.lt_or_ge j 32 with h | h
    · cases hb : x.toBitVec.toNat.testBit j with
      | false => rfl
      | true =>
        have := (hx j h (by rw [q_hasB h]; exact hb)).1
        omega
    · exact Nat.testBit_lt_two_pow (Nat.lt_of_lt_of_le x.toBitVec.isLt (Nat.pow_le_pow_right (by decide) h))
  obtain ⟨m, em⟩ : ∃ m, m = x.toBitVec.toNat := ⟨_, rfl⟩
  have ex : x = nI m := by
    apply Int32.toBitVec_inj.1
    show x.toBitVec = BitVec.ofNat 32 m
    rw [em]; simp
  rw [← em] at hf
  have hm : m < 2 ^ n := Nat.lt_pow_two_of_testBit _ hf
  have hin : ∀ j, m.testBit j = true → n_in k i j = true := fun j hj => by
    have h32 : j < 32 := by
      rcases Nat.lt_or_ge j n with h | h
      · omega
      · rw [hf j h] at hj; cases hj
    have h1 := hx j h32 (by rw [q_hasB h32]; rw [em] at hj; exact hj)
    unfold n_in
    rw [Bool.and_eq_true, Bool.or_eq_true, decide_eq_true_eq, decide_eq_true_eq, decide_eq_true_eq]
    exact ⟨by omega, h1.2⟩
  have h16 : 2 ^ n ≤ 2 ^ 16 := Nat.pow_le_pow_right (by decide) hn16
  have hm16 : m < 65536 := by omega
  have h1 := n_chk_sp 16 0 (n_chk_all k (by omega) i (by omega) (by omega)) m hm16 hin
  rw [Nat.mul_zero, Nat.zero_add] at h1
  have h2 := n_cnt_top hm (16 - n)
  rw [show n + (16 - n) = 16 by omega] at h2
  rw [ex, q_hd_n hm16, q_cnt_n (by omega) n (by omega), h1, h2]
