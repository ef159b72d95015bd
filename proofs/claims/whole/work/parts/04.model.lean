/-! THE MODEL: what both sides are. A message: kind, time, clock. A state: the table (0 clock, 1 state, 2 time, 3 votes, 4 failures, 5 inquiries, 6 inquired) by nodes, to whom lent, rows, wires, entries. -/
abbrev qM : Type := Int32 × Int32 × Int32
abbrev qSt : Type := (Nat → Nat → Int32) × (Nat → Option (Nat × Int32)) × (Nat → List (Nat × Int32)) × (Nat → Nat → List qM) × Int32
def q2 {α : Type} (f : Nat → Nat → α) (a b : Nat) (v : α) : Nat → Nat → α := fun x y => if x = a ∧ y = b then v else f x y
theorem q2_s {α : Type} {f : Nat → Nat → α} {a b : Nat} {v : α} : q2 f a b v a b = v := by simp [q2]
theorem q2_n {α : Type} {f : Nat → Nat → α} {a b x y : Nat} {v : α} (h : ¬ (x = a ∧ y = b)) : q2 f a b v x y = f x y := by simp [q2, h]
def s_tb (σ : qSt) (f i : Nat) (v : Int32) : qSt := (q2 σ.1 f i v, σ.2)
def s_ln (σ : qSt) (i : Nat) (v : Option (Nat × Int32)) : qSt := (σ.1, va_up σ.2.1 i v, σ.2.2)
def s_rw (σ : qSt) (i : Nat) (r : List (Nat × Int32)) : qSt := (σ.1, σ.2.1, va_up σ.2.2.1 i r, σ.2.2.2)
def s_wr (σ : qSt) (f t : Nat) (w : List qM) : qSt := (σ.1, σ.2.1, σ.2.2.1, q2 σ.2.2.2.1 f t w, σ.2.2.2.2)
def s_en (σ : qSt) (v : Int32) : qSt := (σ.1, σ.2.1, σ.2.2.1, σ.2.2.2.1, v)
def s_send (σ : qSt) (f t : Nat) (kd tm : Int32) : qSt := s_wr σ f t (σ.2.2.2.1 f t ++ [(kd, tm, σ.1 0 f)])
def q_bit (j : Nat) : Int32 := (1 : Int32) <<< (nI j &&& 31)
def q_nbit (j : Nat) : Int32 := q_bit j ^^^ (-1)
def q_has (m : Int32) (j : Nat) : Bool := decide ((m >>> (nI j &&& 31)) &&& 1 = 1)
def q_bef (t : Int32) (a : Nat) (u : Int32) (b : Nat) : Bool := decide (t < u ∨ t = u ∧ a < b)
/-- the quorum of i, as bits, of the nodes below m -/
def q_quo (k i : Nat) : Nat → Int32
  | 0 => 0
  | m + 1 => q_quo k i m ||| (if m / k = i / k ∨ m % k = i % k then q_bit m else 0)
/-- the place that a request gets, of the first p -/
def q_pl (r : List (Nat × Int32)) (a : Nat) (t : Int32) : Nat → Nat
  | 0 => 0
  | p + 1 => if q_bef t a (r.getD p (0, 0)).2 (r.getD p (0, 0)).1 then q_pl r a t p else p + 1
def q_ins (r : List (Nat × Int32)) (a : Nat) (t : Int32) : List (Nat × Int32) := r.take (q_pl r a t r.length) ++ (a, t) :: r.drop (q_pl r a t r.length)
def q_empty (σ : qSt) (i : Nat) : qSt := s_tb (s_tb (s_tb σ 3 i 0) 4 i 0) 5 i 0
/-- to each node from j on, the next c ones, that is in the set -/
def q_all (i : Nat) (set kd tm : Int32) : Nat → Nat → qSt → qSt
  | 0, _, σ => σ
  | c + 1, j, σ => q_all i set kd tm c (j + 1) (if q_has set j then s_send σ i j kd tm else σ)
def q_init : qSt := (fun _ _ => 0, fun _ => none, fun _ => [], fun _ _ => [], 0)
def q_request (n k : Nat) (σ : qSt) (i : Nat) : Int32 × qSt :=
  if σ.1 1 i = 0 then (0, q_all i (q_quo k i n) 1 (σ.1 0 i + 1) n 0 (q_empty (s_tb (s_tb (s_tb σ 0 i (σ.1 0 i + 1)) 1 i 1) 2 i (σ.1 0 i + 1)) i)) else (1, σ)
def q_enter (n k : Nat) (σ : qSt) (i : Nat) : Int32 × qSt :=
  if σ.1 1 i = 1 ∧ σ.1 3 i = q_quo k i n then (1, s_en (s_tb σ 1 i 2) (σ.2.2.2.2 + 1)) else (0, σ)
def q_release (n k : Nat) (σ : qSt) (i : Nat) : Int32 × qSt :=
  if σ.1 1 i = 2 then (0, q_all i (q_quo k i n) 3 (σ.1 2 i) n 0 (q_empty (s_tb (s_tb σ 1 i 0) 2 i 0) i)) else (1, σ)
def q_giveUp (σ : qSt) (i j : Nat) : qSt :=
  s_tb (s_tb (s_tb (s_send σ i j 5 (σ.1 2 i)) 3 i (σ.1 3 i &&& q_nbit j)) 5 i (σ.1 5 i &&& q_nbit j)) 4 i (σ.1 4 i ||| q_bit j)
def q_gives (i : Nat) : Nat → Nat → qSt → qSt
  | 0, _, σ => σ
  | c + 1, j, σ => q_gives i c (j + 1) (if q_has (σ.1 3 i &&& σ.1 5 i) j then q_giveUp σ i j else σ)
def q_locked (σ : qSt) (i j : Nat) (t : Int32) : qSt :=
  if σ.1 1 i ≠ 0 ∧ σ.1 2 i = t then s_tb (s_tb σ 3 i (σ.1 3 i ||| q_bit j)) 4 i (σ.1 4 i &&& q_nbit j) else σ
def q_failed (n : Nat) (σ : qSt) (i j : Nat) (t : Int32) : qSt :=
  if σ.1 1 i = 1 ∧ σ.1 2 i = t then q_gives i n 0 (s_tb σ 4 i (σ.1 4 i ||| q_bit j)) else σ
def q_inquire (σ : qSt) (i j : Nat) (t : Int32) : qSt :=
  if (σ.1 1 i = 1 ∧ σ.1 2 i = t) ∧ q_has (σ.1 3 i) j = true then
    (if σ.1 4 i ≠ 0 then q_giveUp σ i j else s_tb σ 5 i (σ.1 5 i ||| q_bit j))
  else σ
def q_lend (σ : qSt) (i a : Nat) (t : Int32) : qSt := s_send (s_tb (s_ln σ i (some (a, t))) 6 i 0) i a 2 t
def q_asked (σ : qSt) (i a : Nat) (t : Int32) : qSt :=
  match σ.2.1 i with
  | none => q_lend σ i a t
  | some (b, u) =>
    let σ1 := s_rw σ i (q_ins (σ.2.2.1 i) a t)
    if q_pl (σ.2.2.1 i) a t (σ.2.2.1 i).length = 0 ∧ q_bef t a u b = true then
      let σ2 := match σ.2.2.1 i with
        | [] => σ1
        | x :: _ => if q_bef x.2 x.1 u b = true then s_send σ1 i x.1 6 x.2 else σ1
      if σ.1 6 i = 0 then s_tb (s_send σ2 i b 4 u) 6 i 1 else σ2
    else s_send σ1 i a 6 t
/-- the vote is home: it goes to the first that waits -/
def q_next (σ : qSt) (i : Nat) : qSt :=
  match σ.2.2.1 i with
  | [] => σ
  | x :: r => q_lend (s_rw σ i r) i x.1 x.2
def q_home (σ : qSt) (i a : Nat) (t : Int32) (again : Bool) : qSt :=
  if σ.2.1 i = some (a, t) then
    q_next (s_tb (s_ln (if again then s_rw σ i (q_ins (σ.2.2.1 i) a t) else σ) i none) 6 i 0) i
  else σ
def q_max (x y : Int32) : Int32 := if x < y then y else x
def q_do (n : Nat) (σ : qSt) (i j : Nat) (kd t : Int32) : qSt :=
  if kd = 1 then q_asked σ i j t
  else if kd = 2 then q_locked σ i j t
  else if kd = 3 then q_home σ i j t false
  else if kd = 4 then q_inquire σ i j t
  else if kd = 5 then q_home σ i j t true
  else q_failed n σ i j t
def q_deliver (n : Nat) (σ : qSt) (f t : Nat) : Int32 × qSt :=
  match σ.2.2.2.1 f t with
  | [] => (0, σ)
  | x :: w => (x.1, q_do n (s_tb (s_wr σ f t w) 0 t (q_max (σ.1 0 t) x.2.2 + 1)) t f x.1 x.2.1)
/-- the first wire that has a message, of those from f on, then to t on -/
def q_to (σ : qSt) (f : Nat) : Nat → Nat → Option Nat
  | 0, _ => none
  | c + 1, t => if σ.2.2.2.1 f t = [] then q_to σ f c (t + 1) else some t
def q_from (n : Nat) (σ : qSt) : Nat → Nat → Option (Nat × Nat)
  | 0, _ => none
  | c + 1, f => match q_to σ f n 0 with
    | some t => some (f, t)
    | none => q_from n σ c (f + 1)
def q_settle (n : Nat) : Nat → Nat → qSt → Nat × qSt
  | 0, d, σ => (d, σ)
  | c + 1, d, σ => match q_from n σ n 0 with
    | none => (d, σ)
    | some (f, t) => q_settle n c (d + 1) (q_deliver n σ f t).2
def q_holder (σ : qSt) : Nat → Nat → Int32
  | 0, _ => -1
  | c + 1, i => if σ.1 1 i = 2 then nI i else q_holder σ c (i + 1)
def q_on (o : Option (Nat × Int32)) : Int32 := match o with
  | none => -1
  | some x => nI x.1
def q_ot (o : Option (Nat × Int32)) : Int32 := match o with
  | none => 0
  | some x => x.2
/-- the m-th of a row: its node; of a wire: a part -/
def q_at (r : List (Nat × Int32)) (m : Int32) : Int32 := if m < 0 ∨ nI r.length ≤ m then -1 else nI (r.getD m.toNatClampNeg (0, 0)).1
def q_att (r : List (Nat × Int32)) (m : Int32) : Int32 := if m < 0 ∨ nI r.length ≤ m then -1 else (r.getD m.toNatClampNeg (0, 0)).2
def q_part (w : List qM) (m what : Int32) : Int32 :=
  if m < 0 ∨ nI w.length ≤ m then -1
  else if what = 0 then (w.getD m.toNatClampNeg (0, 0, 0)).1
  else if what = 1 then (w.getD m.toNatClampNeg (0, 0, 0)).2.1
  else if what = 2 then (w.getD m.toNatClampNeg (0, 0, 0)).2.2
  else -1
/-! HOW THE CLASS HOLDS THEM -/
def qRow (dd : va_G) (ga : Nat → ClassId) (q h0 h1 h2 : Nat) (r : List (Nat × Int32)) (H : Heap) : Prop := ∃ f g : Nat → Int32, va_at dd vwCl (h0, .inr (1, [.ref h1, .ref h2, .int (nI r.length)])) H ∧ va_at dd vwCl (h1, .inl (ga 0, q, .inl f)) H ∧ va_at dd vwCl (h2, .inl (ga 0, q, .inl g)) H ∧ (∀ (j : Nat) (x : Nat × Int32), r[j]? = some x → f j = nI x.1 ∧ g j = x.2)
def qVot (dd : va_G) (h0 hr : Nat) (ln : Option (Nat × Int32)) (iq : Int32) (H : Heap) : Prop := va_at dd vwCl (h0, .inr (2, [.ref hr, .int (q_on ln), .int (q_ot ln), .int iq])) H
def q_sum (w : Nat → Nat → List qM) (f : Nat) : Nat → Nat
  | 0 => 0
  | t + 1 => q_sum w f t + (w f t).length
def qWir (dd : va_G) (ga : Nat → ClassId) (n h0 h1 h2 h3 h4 : Nat) (w : Nat → Nat → List qM) (H : Heap) : Prop := ∃ P O Y F : Nat → Int32, va_at dd vwCl (h0, .inr (3, [.int (nI n), .ref h1, .ref h2, .ref h3, .ref h4])) H ∧ va_at dd vwCl (h1, .inl (ga 0, n * n * 8 * 3, .inl P)) H ∧ va_at dd vwCl (h2, .inl (ga 0, n * n, .inl O)) H ∧ va_at dd vwCl (h3, .inl (ga 0, n * n, .inl Y)) H ∧ va_at dd vwCl (h4, .inl (ga 0, n, .inl F)) H ∧
  (∀ f t : Nat, f < n → t < n → ∃ o : Nat, o < 8 ∧ O (f * n + t) = nI o ∧ Y (f * n + t) = nI (w f t).length ∧ (w f t).length ≤ 8 ∧ ∀ (m : Nat) (x : qM), (w f t)[m]? = some x → P (((f * n + t) * 8 + (o + m) % 8) * 3) = x.1 ∧ P (((f * n + t) * 8 + (o + m) % 8) * 3 + 1) = x.2.1 ∧ P (((f * n + t) * 8 + (o + m) % 8) * 3 + 2) = x.2.2) ∧
  (∀ f : Nat, f < n → F f = nI (q_sum w f n))
