/-! rounds behind one another, the least set, years, rows of choices -/
def q_rr (f : Nat → Nat) : Nat → Nat → Nat → Int32
  | 0, _, _ => (-4 : Int32)
  | k + 1, r, x => if f x = x then nI r else q_rr f k (r + 1) (f x)
def q_sw (f : Nat → Nat) (x0 : Nat) : Nat → Nat → Nat → Nat
  | 0, _, c => c
  | k + 1, y, c => if y = x0 then c else q_sw f x0 k (f y) (c + 1)
def q_sg (f : Nat → Nat) (S : Nat) : Nat := q_sw f (q_it f 128 S) 127 (f (q_it f 128 S)) 1
def q_rs (T : Nat → Nat → Nat) (n : Nat) (se : Int32) (S : Nat) : Bool := decide (q_cs T n se S n = 0)
def q_cr (P : Nat → Bool) : Nat → Nat
  | 0 => 0
  | s + 1 => if P s then q_cr P s + 1 else q_cr P s
def q_ra (P : Nat → Bool) (i : Nat) : Nat → Nat → Nat → Int32
  | 0, _, _ => (-4 : Int32)
  | k + 1, s, a => if P s then (if a = i then nI s else q_ra P i k (s + 1) (a + 1)) else q_ra P i k (s + 1) a
/-- the first of the fewest -/
def q_min (P : Nat → Bool) : Nat → Option Nat
  | 0 => none
  | s + 1 => match q_min P s with
    | none => if P s then some s else none
    | some b => if P s ∧ pop8 s < pop8 b then some s else some b
def q_oc : Option Nat → Int32
  | none => (-4 : Int32)
  | some b => nI b
def q_fw : Option Nat → Nat
  | none => 8
  | some b => pop8 b
def q_tp (T : Nat → Nat → Nat) (n : Nat) (se : Int32) (t : Bool) (ow goal : Nat) : Int32 :=
  if q_rs T n se goal then q_oc (q_min (fun p => decide (q_it (q_rd T n se t) 128 (ow ^^^ p) = goal)) (2 ^ n)) else (-4 : Int32)
def q_nd (b ow : Nat) : Nat := b &&& (127 ^^^ ow)
def q_bn (T : Nat → Nat → Nat) (n : Nat) (se : Int32) (i ow : Nat) (b : Nat) : Bool := decide (q_nd b ow = 0) && q_want T n se i (q_nd ow b)
def q_x (z t : Nat) : Int64 := ((7919 : Int64) * (nI z).toInt64 + (6151 : Int64) * (nI t).toInt64) + (1 : Int64)
def q_m1 (x : Int64) : Int64 := x * x - x * x / (65521 : Int64) * (65521 : Int64)
def q_m2 (x : Int64) : Int64 := x - x / (100 : Int64) * (100 : Int64)
def q_sn (z t : Nat) : Int32 := (q_m2 (q_m1 (q_x z t))).toInt32
def q_yr (T : Nat → Nat → Nat) (n z S : Nat) : Nat → Nat
  | 0 => S
  | d + 1 => q_rd T n (q_sn z d) true (q_yr T n z S d)
def q_by (g : Nat → Nat) : Nat → Nat × Int32
  | 0 => (0, (-1 : Int32))
  | d + 1 => if (q_by g d).2 < nI (g (d + 1)) then (d, nI (g (d + 1))) else q_by g d
/-- PLACE: he comes with k ahead of him -/
def q_g1 (T : Nat → Nat → Nat) (n i k : Nat) (s : Nat × Nat × Nat) : Nat × Nat × Nat :=
  if s.2.1 = k ∧ s.1.testBit i = false then (s.1 ||| 2 ^ i, s.2.1, q_oth T n i s.1) else s
def q_g2 (T : Nat → Nat → Nat) (n : Nat) (se : Int32) (i ow j : Nat) (s : Nat × Nat × Nat) : Nat × Nat × Nat :=
  if j < n ∧ ¬ j = i ∧ ow.testBit j = false then ((if q_want T n se j s.1 then s.1 ||| 2 ^ j else s.1), s.2.1 + 1, s.2.2) else s
def q_gb (T : Nat → Nat → Nat) (n : Nat) (se : Int32) (i k ow : Nat) : Nat → Nat × Nat × Nat
  | 0 => (ow, 0, 0)
  | j + 1 => q_g2 T n se i ow j (q_g1 T n i k (q_gb T n se i k ow j))
def q_gain (T : Nat → Nat → Nat) (n : Nat) (se : Int32) (i ow k : Nat) : Int32 := q_wor T n se i (q_gb T n se i k ow (n + 1)).1 - nI (q_gb T n se i k ow (n + 1)).2.2
def q_ba (g : Nat → Int32) : Nat → Nat × Int32
  | 0 => (0, g 0)
  | m + 1 => if (q_ba g m).2 < g (m + 1) then (m + 1, g (m + 1)) else q_ba g m
def q_gt (T : Nat → Nat → Nat) (n : Nat) (se : Int32) (ow i j : Nat) : Int32 :=
  q_wby (T i 0) (nI (T i 1) + (se - nI 50)) (T i 2) (q_oth T n i ow) + q_wby (T j 0) (nI (T j 1) + (se - nI 50)) (T j 2) (q_oth T n i ow) - nI (q_oth T n i ow)
def q_gv (T : Nat → Nat → Nat) (n : Nat) (se : Int32) (ow i j : Nat) : Int32 := if ow.testBit i ∨ ow.testBit j then nI 0 else q_gt T n se ow i j
def q_st (g : Nat → Nat → Int32) (i j : Nat) (a : Int32 × Int32) : Int32 × Int32 := if a.2 < g i j then (nI (10 * i + j), g i j) else a
def q_b2 (g : Nat → Nat → Int32) (i : Nat) : Nat → Nat → Int32 × Int32 → Int32 × Int32
  | 0, _, a => a
  | k + 1, j, a => q_b2 g i k (j + 1) (q_st g i j a)
def q_b1 (g : Nat → Nat → Int32) (n : Nat) : Nat → Nat → Int32 × Int32 → Int32 × Int32
  | 0, _, a => a
  | k + 1, i, a => q_b1 g n k (i + 1) (q_b2 g i (n - (i + 1)) (i + 1) a)
theorem q_fw_le : ∀ o : Option Nat, q_fw o ≤ 8
  | none => Nat.le_refl 8
  | some b => pop8_le b
theorem q_pop7 {s : Nat} (h : s < 128) : pop8 s < 8 := by
  have : ∀ s, s < 128 → pop8 s < 8 := by decide +kernel
  exact this s h
theorem q_minT {P : Nat → Bool} {s : Nat} (hs : s < 128) (hp : P s = true) (hm : pop8 s < q_fw (q_min P s)) : q_min P (s + 1) = some s := by
  rw [q_min]
  cases h : q_min P s with
  | none => simp [hp]
  | some b => rw [h] at hm; simp only [q_fw] at hm; simp [hp, hm]
theorem q_minF {P : Nat → Bool} {s : Nat} (hp : P s = false) : q_min P (s + 1) = q_min P s := by
  rw [q_min]
  cases h : q_min P s with
  | none => simp [hp]
  | some b => simp [hp]
theorem q_minG {P : Nat → Bool} {s : Nat} (hs : s < 128) (hm : ¬ pop8 s < q_fw (q_min P s)) : q_min P (s + 1) = q_min P s := by
  rw [q_min]
  cases h : q_min P s with
  | none => rw [h] at hm; exact absurd (q_pop7 hs) hm
  | some b => rw [h] at hm; simp only [q_fw] at hm; simp [hm]
theorem q_ndI {b ow : Nat} (hb : b < 128) (ho : ow < 128) : nI b &&& (nI ow ^^^ (-1 : Int32)) = nI (q_nd b ow) := by
  have : ∀ ow, ow < 128 → ∀ b, b < 128 → nI b &&& (nI ow ^^^ (-1 : Int32)) = nI (q_nd b ow) := by decide +kernel
  exact this ow ho b hb
theorem q_nd_le (b ow : Nat) : q_nd b ow ≤ b := Nat.and_le_left
theorem q_bnT {T : Nat → Nat → Nat} {n : Nat} {se : Int32} {i ow b : Nat} (h1 : q_nd b ow = 0) (h2 : q_want T n se i (q_nd ow b) = true) : q_bn T n se i ow b = true := by
  unfold q_bn; rw [h2, decide_eq_true h1]; rfl
theorem q_bnF {T : Nat → Nat → Nat} {n : Nat} {se : Int32} {i ow b : Nat} (h2 : q_want T n se i (q_nd ow b) = false) : q_bn T n se i ow b = false := by
  unfold q_bn; rw [h2, Bool.and_false]
theorem q_bnG {T : Nat → Nat → Nat} {n : Nat} {se : Int32} {i ow b : Nat} (h1 : ¬ q_nd b ow = 0) : q_bn T n se i ow b = false := by
  unfold q_bn; rw [decide_eq_false h1]; rfl
theorem q_it_add (f : Nat → Nat) (x : Nat) : ∀ a b, q_it f (a + b) x = q_it f a (q_it f b x)
  | 0, b => by rw [Nat.zero_add]; rfl
  | a + 1, b => by rw [show a + 1 + b = (a + b) + 1 from by omega]; show f _ = f _; rw [q_it_add f x a b]
theorem q_yr_lt {T : Nat → Nat → Nat} {n z S : Nat} (hS : S < 2 ^ n) : ∀ d, q_yr T n z S d < 2 ^ n
  | 0 => hS
  | d + 1 => q_rd_lt (q_yr_lt hS d)
