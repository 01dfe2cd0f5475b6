/-! what the town says, in numbers: T i k are the traits of PERSON i (0 kind, 1 what it is worth, 2 C, 3 household, 4 pennies at first), n how many there are, a set of PERSONS is a number -/
def pop8 (x : Nat) : Nat := (x.testBit 0).toNat + (x.testBit 1).toNat + (x.testBit 2).toNat + (x.testBit 3).toNat + (x.testBit 4).toNat + (x.testBit 5).toNat + (x.testBit 6).toNat + (x.testBit 7).toNat
def q_hm (T : Nat → Nat → Nat) (S : Nat) : Nat → Nat
  | 0 => 0
  | i + 1 => if S.testBit i then q_hm T S i ||| 2 ^ T i 3 else q_hm T S i
def q_wo (x h : Nat) : Nat := x &&& (255 ^^^ 2 ^ h)
def q_oth (T : Nat → Nat → Nat) (n i S : Nat) : Nat := pop8 (q_wo (q_hm T S n) (T i 3))
def q_wby (k : Nat) (pl : Int32) (cc o : Nat) : Int32 := if k = 1 ∧ 0 < o then nI 0 else if k = 2 ∧ 0 < o then (-1 : Int32) else if k = 3 ∧ o < 2 then nI 0 else pl + (nI cc - nI 9) * nI o
def q_wor (T : Nat → Nat → Nat) (n : Nat) (se : Int32) (i S : Nat) : Int32 := q_wby (T i 0) (nI (T i 1) + (se - nI 50)) (T i 2) (q_oth T n i S)
def q_want (T : Nat → Nat → Nat) (n : Nat) (se : Int32) (i S : Nat) : Bool := decide (nI (q_oth T n i S) < q_wor T n se i S)
def q_chg (T : Nat → Nat → Nat) (n : Nat) (se : Int32) (i S : Nat) : Bool := if S.testBit i then decide (q_wor T n se i S < 0) else q_want T n se i S
def q_cs (T : Nat → Nat → Nat) (n : Nat) (se : Int32) (S : Nat) : Nat → Nat
  | 0 => 0
  | i + 1 => if q_chg T n se i S then q_cs T n se S i ||| 2 ^ i else q_cs T n se S i
def q_rn (T : Nat → Nat → Nat) (n : Nat) (se : Int32) (t : Bool) (S : Nat) : Nat → Nat
  | 0 => S
  | i + 1 => if q_chg T n se i (if t then q_rn T n se t S i else S) then q_rn T n se t S i ^^^ 2 ^ i else q_rn T n se t S i
def q_rd (T : Nat → Nat → Nat) (n : Nat) (se : Int32) (t : Bool) (S : Nat) : Nat := q_rn T n se t S n
def q_it (f : Nat → Nat) : Nat → Nat → Nat
  | 0, x => x
  | k + 1, x => f (q_it f k x)
/-- a row of traits tells T -/
def q_Tr (T : Nat → Nat → Nat) (n : Nat) (tr : Nat → Int32) : Prop := ∀ i, i < n → ∀ k, k < 5 → tr (i * 5 + k) = nI (T i k)
def q_Bd (T : Nat → Nat → Nat) (n : Nat) : Prop := n ≤ 7 ∧ ∀ i, i < n → T i 0 < 4 ∧ T i 1 < 100 ∧ T i 2 < 19 ∧ T i 3 < 8 ∧ T i 4 < 100
def q_Hm (T : Nat → Nat → Nat) (n : Nat) (hm : Nat → Int32) : Prop := ∀ S, S < 2 ^ n → hm S = nI (q_hm T S n)
theorem q_p2 {n : Nat} (h : n ≤ 7) : 2 ^ n ≤ 128 := Nat.pow_le_pow_right (by decide) h
theorem q_S128 {T : Nat → Nat → Nat} {n S : Nat} (hB : q_Bd T n) (hS : S < 2 ^ n) : S < 128 := Nat.lt_of_lt_of_le hS (q_p2 hB.1)
theorem q_hm_lt {T : Nat → Nat → Nat} {S : Nat} : ∀ {n : Nat}, (∀ i, i < n → T i 3 < 8) → q_hm T S n < 256
  | 0, _ => by simp [q_hm]
  | n + 1, h => by
    have ih := q_hm_lt (T := T) (S := S) (n := n) (fun i hi => h i (by omega))
    have h2 : 2 ^ T n 3 < 2 ^ 8 := Nat.pow_lt_pow_right (by decide) (h n (by omega))
    unfold q_hm
    split
    · exact Nat.or_lt_two_pow (n := 8) ih h2
    · exact ih
theorem q_hm_lt' {T : Nat → Nat → Nat} {n S : Nat} (hB : q_Bd T n) : q_hm T S n < 256 := q_hm_lt (fun i hi => (hB.2 i hi).2.2.2.1)
theorem q_wo_lt {x h : Nat} (hx : x < 256) : q_wo x h < 256 := Nat.lt_of_le_of_lt Nat.and_le_left hx
theorem q_mask8 {x h : Nat} (hx : x < 256) (hh : h < 8) : nI x &&& (nI (2 ^ h) ^^^ (-1 : Int32)) = nI (q_wo x h) := by
  have : ∀ h, h < 8 → ∀ x, x < 256 → nI x &&& (nI (2 ^ h) ^^^ (-1 : Int32)) = nI (q_wo x h) := by decide +kernel
  exact this h hh x hx
theorem q_tn (b : Bool) : b.toNat ≤ 1 := by cases b <;> decide
theorem pop8_le (x : Nat) : pop8 x ≤ 8 := by
  unfold pop8
  have := q_tn (x.testBit 0); have := q_tn (x.testBit 1); have := q_tn (x.testBit 2); have := q_tn (x.testBit 3)
  have := q_tn (x.testBit 4); have := q_tn (x.testBit 5); have := q_tn (x.testBit 6); have := q_tn (x.testBit 7)
  omega
theorem q_oth_le (T : Nat → Nat → Nat) (n i S : Nat) : q_oth T n i S ≤ 8 := pop8_le _
theorem q_hasT {S i : Nat} (h : S &&& 2 ^ i = 0) : S.testBit i = false := by
  have h2 := congrArg (fun x => x.testBit i) h
  simpa [Nat.testBit_and, Nat.testBit_two_pow_self] using h2
theorem q_hasF {S i : Nat} (h : ¬ S &&& 2 ^ i = 0) : S.testBit i = true := by
  cases hb : S.testBit i with
  | true => rfl
  | false =>
    refine absurd (Nat.eq_of_testBit_eq fun j => ?_) h
    rw [Nat.testBit_and, Nat.testBit_two_pow, Nat.zero_testBit]
    by_cases hj : i = j
    · subst hj; simp [hb]
    · simp [hj]
def bc1 (x : Int32) : Int32 := x - (((x.toUInt32 >>> ((nI 1).toUInt32 &&& Int32.toUInt32 31)).toInt32) &&& (1431655765 : Int32))
def bc2 (x : Int32) : Int32 := (x &&& (858993459 : Int32)) + (((x.toUInt32 >>> ((nI 2).toUInt32 &&& Int32.toUInt32 31)).toInt32) &&& (858993459 : Int32))
def bc3 (x : Int32) : Int32 := (x + (x.toUInt32 >>> ((nI 4).toUInt32 &&& Int32.toUInt32 31)).toInt32) &&& (252645135 : Int32)
def bc4 (x : Int32) : Int32 := x + (x.toUInt32 >>> ((nI 8).toUInt32 &&& Int32.toUInt32 31)).toInt32
def bc5 (x : Int32) : Int32 := x + (x.toUInt32 >>> ((nI 16).toUInt32 &&& Int32.toUInt32 31)).toInt32
theorem q_bc {k : Nat} (hk : k < 256) : bc5 (bc4 (bc3 (bc2 (bc1 (nI k))))) &&& nI 63 = nI (pop8 k) := by
  have : ∀ k, k < 256 → bc5 (bc4 (bc3 (bc2 (bc1 (nI k))))) &&& nI 63 = nI (pop8 k) := by decide +kernel
  exact this k hk
def q_eit (w : Int32) : Bool := decide (w = 0 ∨ w = 1)
theorem q_dT {a b : Int32} (h : ¬ b ≤ a) : decide (a < b) = true := decide_eq_true (Int32.not_le.mp h)
theorem q_dF {a b : Int32} (h : b ≤ a) : decide (a < b) = false := decide_eq_false (fun h2 => Int32.not_le.mpr h2 h)
theorem q_xor_lt {n a b : Nat} (ha : a < 2 ^ n) (hb : b < n) : a ^^^ 2 ^ b < 2 ^ n := Nat.xor_lt_two_pow ha (Nat.pow_lt_pow_right (by decide) hb)
theorem q_or_lt {n a b : Nat} (ha : a < 2 ^ n) (hb : b < n) : a ||| 2 ^ b < 2 ^ n := Nat.or_lt_two_pow ha (Nat.pow_lt_pow_right (by decide) hb)
theorem q_rn_lt {T : Nat → Nat → Nat} {n N : Nat} {se : Int32} {t : Bool} {S : Nat} (hS : S < 2 ^ N) : ∀ {i : Nat}, i ≤ N → q_rn T n se t S i < 2 ^ N
  | 0, _ => hS
  | i + 1, h => by
    have ih := q_rn_lt (T := T) (n := n) (se := se) (t := t) hS (i := i) (by omega)
    unfold q_rn
    by_cases hc : q_chg T n se i (if t then q_rn T n se t S i else S) = true
    · rw [if_pos hc]; exact q_xor_lt ih (by omega)
    · rw [if_neg hc]; exact ih
theorem q_rd_lt {T : Nat → Nat → Nat} {n : Nat} {se : Int32} {t : Bool} {S : Nat} (hS : S < 2 ^ n) : q_rd T n se t S < 2 ^ n := q_rn_lt hS (Nat.le_refl n)
theorem q_it_lt {f : Nat → Nat} {N : Nat} (hf : ∀ x, x < N → f x < N) {x : Nat} (hx : x < N) : ∀ k, q_it f k x < N
  | 0 => hx
  | k + 1 => hf _ (q_it_lt hf hx k)
theorem q_cs_lt {T : Nat → Nat → Nat} {n N : Nat} {se : Int32} {S : Nat} : ∀ {i : Nat}, i ≤ N → q_cs T n se S i < 2 ^ N
  | 0, _ => Nat.two_pow_pos N
  | i + 1, h => by
    have ih := q_cs_lt (T := T) (n := n) (N := N) (se := se) (S := S) (i := i) (by omega)
    unfold q_cs
    split
    · exact q_or_lt ih (by omega)
    · exact ih
