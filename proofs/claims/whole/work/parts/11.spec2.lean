/-! rounds behind one another, the least set, years, rows of choices -/
def q_rr (f : Nat → Nat) : Nat → Nat → Nat → Int32
  | 0, _, _ => (-4 : Int32)
  | k + 1, r, x => if f x = x then nI r else q_rr f k (r + 1) (f x)
def q_sw (f : Nat → Nat) (x0 : Nat) : Nat → Nat → Nat → Nat
  | 0, _, c => c
  | k + 1, y, c => if y = x0 then c else q_sw f x0 k (f y) (c + 1)
def q_sg (f : Nat → Nat) (S : Nat) : Nat := q_sw f (q_it f 128 S) 127 (f (q_it f 128 S)) 1
def q_rs (T : Nat → Nat → Nat) (n : Nat) (se : Int32) (S : Nat) : Bool := decide (q_cs T n se S n = 0)
def q_cr (P : Nat → Bool) : Nat → Nat
  | 0 => 0
  | s + 1 => if P s then q_cr P s + 1 else q_cr P s
def q_ra (P : Nat → Bool) (i : Nat) : Nat → Nat → Nat → Int32
  | 0, _, _ => (-4 : Int32)
  | k + 1, s, a => if P s then (if a = i then nI s else q_ra P i k (s + 1) (a + 1)) else q_ra P i k (s + 1) a
/-- the first of the fewest -/
def q_min (P : Nat → Bool) : Nat → Option Nat
  | 0 => none
  | s + 1 => match q_min P s with
    | none => if P s then some s else none
    | some b => if P s ∧ pop8 s < pop8 b then some s else some b
def q_oc : Option Nat → Int32
  | none => (-4 : Int32)
  | some b => nI b
def q_fw : Option Nat → Nat
  | none => 8
  | some b => pop8 b
def q_P1 (T : Nat → Nat → Nat) (n : Nat) (se : Int32) (t : Bool) (ow goal p : Nat) : Bool := decide (q_it (q_rd T n se t) 128 (ow ^^^ p) = goal)
def q_tp (T : Nat → Nat → Nat) (n : Nat) (se : Int32) (t : Bool) (ow goal : Nat) : Int32 :=
  if q_rs T n se goal then q_oc (q_min (q_P1 T n se t ow goal) (2 ^ n)) else (-4 : Int32)
def q_nd (b ow : Nat) : Nat := b &&& (127 ^^^ ow)
def q_bn (T : Nat → Nat → Nat) (n : Nat) (se : Int32) (i ow : Nat) (b : Nat) : Bool := decide (q_nd b ow = 0) && q_want T n se i (q_nd ow b)
def q_x (z t : Nat) : Int64 := ((7919 : Int64) * (nI z).toInt64 + (6151 : Int64) * (nI t).toInt64) + (1 : Int64)
def q_m1 (x : Int64) : Int64 := x * x - x * x / (65521 : Int64) * (65521 : Int64)
def q_m2 (x : Int64) : Int64 := x - x / (100 : Int64) * (100 : Int64)
def q_sn (z t : Nat) : Int32 := (q_m2 (q_m1 (q_x z t))).toInt32
def q_yr (T : Nat → Nat → Nat) (n z S : Nat) : Nat → Nat
  | 0 => S
  | d + 1 => q_rd T n (q_sn z d) true (q_yr T n z S d)
def q_by (g : Nat → Nat) : Nat → Nat × Int32
  | 0 => (0, (-1 : Int32))
  | d + 1 => if (q_by g d).2 < nI (g (d + 1)) then (d, nI (g (d + 1))) else q_by g d
/-- PLACE: he comes with k ahead of him -/
def q_g1 (T : Nat → Nat → Nat) (n i k : Nat) (s : Nat × Nat × Nat) : Nat × Nat × Nat :=
  if s.2.1 = k ∧ s.1.testBit i = false then (s.1 ||| 2 ^ i, s.2.1, q_oth T n i s.1) else s
def q_g2 (T : Nat → Nat → Nat) (n : Nat) (se : Int32) (i ow j : Nat) (s : Nat × Nat × Nat) : Nat × Nat × Nat :=
  if j < n ∧ ¬ j = i ∧ ow.testBit j = false then ((if q_want T n se j s.1 then s.1 ||| 2 ^ j else s.1), s.2.1 + 1, s.2.2) else s
def q_gb (T : Nat → Nat → Nat) (n : Nat) (se : Int32) (i k ow : Nat) : Nat → Nat × Nat × Nat
  | 0 => (ow, 0, 0)
  | j + 1 => q_g2 T n se i ow j (q_g1 T n i k (q_gb T n se i k ow j))
def q_gain (T : Nat → Nat → Nat) (n : Nat) (se : Int32) (i ow k : Nat) : Int32 := q_wor T n se i (q_gb T n se i k ow (n + 1)).1 - nI (q_gb T n se i k ow (n + 1)).2.2
def q_ba (g : Nat → Int32) : Nat → Nat × Int32
  | 0 => (0, g 0)
  | m + 1 => if (q_ba g m).2 < g (m + 1) then (m + 1, g (m + 1)) else q_ba g m
def q_gt (T : Nat → Nat → Nat) (n : Nat) (se : Int32) (ow i j : Nat) : Int32 :=
  q_wby (T i 0) (nI (T i 1) + (se - nI 50)) (T i 2) (q_oth T n i ow) + q_wby (T j 0) (nI (T j 1) + (se - nI 50)) (T j 2) (q_oth T n i ow) - nI (q_oth T n i ow)
def q_gv (T : Nat → Nat → Nat) (n : Nat) (se : Int32) (ow i j : Nat) : Int32 := if ow.testBit i ∨ ow.testBit j then nI 0 else q_gt T n se ow i j
def q_st (g : Nat → Nat → Int32) (i j : Nat) (a : Int32 × Int32) : Int32 × Int32 := if a.2 < g i j then (nI (10 * i + j), g i j) else a
def q_b2 (g : Nat → Nat → Int32) (i : Nat) : Nat → Nat → Int32 × Int32 → Int32 × Int32
  | 0, _, a => a
  | k + 1, j, a => q_b2 g i k (j + 1) (q_st g i j a)
def q_b1 (g : Nat → Nat → Int32) (n : Nat) : Nat → Nat → Int32 × Int32 → Int32 × Int32
  | 0, _, a => a
  | k + 1, i, a => q_b1 g n k (i + 1) (q_b2 g i (n - (i + 1)) (i + 1) a)
theorem q_fw_le : ∀ o : Option Nat, q_fw o ≤ 8
  | none => Nat.le_refl 8
  | some b => pop8_le b
theorem q_pop7 {s : Nat} (h : s < 128) : pop8 s < 8 := by
  have : ∀ s, s < 128 → pop8 s < 8 := by decide +kernel
  exact this s h
theorem q_minT {P : Nat → Bool} {s : Nat} (hs : s < 128) (hp : P s = true) (hm : pop8 s < q_fw (q_min P s)) : q_min P (s + 1) = some s := by
  rw [q_min]
  cases h : q_min P s with
  | none => simp [hp]
  | some b => rw [h] at hm; simp only [q_fw] at hm; simp [hp, hm]
theorem q_minF {P : Nat → Bool} {s : Nat} (hp : P s = false) : q_min P (s + 1) = q_min P s := by
  rw [q_min]
  cases h : q_min P s with
  | none => simp [hp]
  | some b => simp [hp]
theorem q_minG {P : Nat → Bool} {s : Nat} (hs : s < 128) (hm : ¬ pop8 s < q_fw (q_min P s)) : q_min P (s + 1) = q_min P s := by
  rw [q_min]
  cases h : q_min P s with
  | none => rw [h] at hm; exact absurd (q_pop7 hs) hm
  | some b => rw [h] at hm; simp only [q_fw] at hm; simp [hm]
theorem q_ndI {b ow : Nat} (hb : b < 128) (ho : ow < 128) : nI b &&& (nI ow ^^^ (-1 : Int32)) = nI (q_nd b ow) := by
  have : ∀ ow, ow < 128 → ∀ b, b < 128 → nI b &&& (nI ow ^^^ (-1 : Int32)) = nI (q_nd b ow) := by decide +kernel
  exact this ow ho b hb
theorem q_nd_le (b ow : Nat) : q_nd b ow ≤ b := Nat.and_le_left
theorem q_bnT {T : Nat → Nat → Nat} {n : Nat} {se : Int32} {i ow b : Nat} (h1 : q_nd b ow = 0) (h2 : q_want T n se i (q_nd ow b) = true) : q_bn T n se i ow b = true := by
  unfold q_bn; rw [h2, decide_eq_true h1]; rfl
theorem q_bnF {T : Nat → Nat → Nat} {n : Nat} {se : Int32} {i ow b : Nat} (h2 : q_want T n se i (q_nd ow b) = false) : q_bn T n se i ow b = false := by
  unfold q_bn; rw [h2, Bool.and_false]
theorem q_bnG {T : Nat → Nat → Nat} {n : Nat} {se : Int32} {i ow b : Nat} (h1 : ¬ q_nd b ow = 0) : q_bn T n se i ow b = false := by
  unfold q_bn; rw [decide_eq_false h1]; rfl
theorem q_it_add (f : Nat → Nat) (x : Nat) : ∀ a b, q_it f (a + b) x = q_it f a (q_it f b x)
  | 0, b => by rw [Nat.zero_add]; rfl
  | a + 1, b => by rw [show a + 1 + b = (a + b) + 1 from by omega]; show f _ = f _; rw [q_it_add f x a b]
theorem q_yr_lt {T : Nat → Nat → Nat} {n z S : Nat} (hS : S < 2 ^ n) : ∀ d, q_yr T n z S d < 2 ^ n
  | 0 => hS
  | d + 1 => q_rd_lt (q_yr_lt hS d)
theorem q_sw_eq (f : Nat → Nat) (x0 k c : Nat) : q_sw f x0 k x0 c = c := by cases k <;> simp [q_sw]
theorem q_upd_lt {g : Nat → Int32} (F : Nat → Int32) {s : Nat} (h : ∀ S, S < s → g S = F S) : ∀ S, S < s + 1 → upd g s (F s) S = F S := by
  intro S hS
  unfold upd
  by_cases e : S = s
  · rw [if_pos e, e]
  · rw [if_neg e]; exact h S (by omega)
theorem q_lk {f : Nat → Nat} {g : Nat → Int32} {N ps s K : Nat} (hg : ∀ S, S < N → ∃ k, 2 ^ ps ≤ k ∧ (S < s → 2 ^ (ps + 1) ≤ k) ∧ g S = nI (q_it f k S)) (hK : 2 ^ (ps + 1) ≤ K) :
    ∀ S, S < N → ∃ k, 2 ^ ps ≤ k ∧ (S < s + 1 → 2 ^ (ps + 1) ≤ k) ∧ upd g s (nI (q_it f K s)) S = nI (q_it f k S) := by
  intro S hS
  have h2 : 2 ^ (ps + 1) = 2 * 2 ^ ps := Nat.pow_succ'
  unfold upd
  by_cases e : S = s
  · subst e
    exact ⟨K, by omega, fun _ => hK, by rw [if_pos rfl]⟩
  · obtain ⟨k, a, b, c⟩ := hg S hS
    exact ⟨k, a, fun z => b (by omega), by rw [if_neg e]; exact c⟩
/-- two of N + 1 numbers below N are the same -/
theorem q_pig : ∀ (N : Nat) (s : Nat → Nat), (∀ i, i ≤ N → s i < N) → ∃ a b, a < b ∧ b ≤ N ∧ s a = s b
  | 0, s, h => absurd (h 0 (Nat.le_refl 0)) (Nat.not_lt_zero _)
  | N + 1, s, h => by
    by_cases hv : ∃ i, i ≤ N ∧ s i = s (N + 1)
    · obtain ⟨i, h1, h2⟩ := hv
      exact ⟨i, N + 1, by omega, Nat.le_refl _, h2⟩
    · have hne : ∀ i, i ≤ N → s i ≠ s (N + 1) := fun i hi e => hv ⟨i, hi, e⟩
      have hl := h (N + 1) (Nat.le_refl _)
      obtain ⟨a, b, h1, h2, h3⟩ := q_pig N (fun i => if s i = N then s (N + 1) else s i) (fun i hi => by
        have h4 := h i (by omega)
        have h5 := hne i hi
        show (if s i = N then s (N + 1) else s i) < N
        split <;> omega)
      refine ⟨a, b, h1, by omega, ?_⟩
      have ha := hne a (by omega)
      have hb := hne b (by omega)
      have h3' : (if s a = N then s (N + 1) else s a) = (if s b = N then s (N + 1) else s b) := h3
      split at h3' <;> split at h3' <;> omega
theorem q_it_fix {f : Nat → Nat} {g : Nat} (hg : f g = g) : ∀ k, q_it f k g = g
  | 0 => rfl
  | k + 1 => by show f (q_it f k g) = g; rw [q_it_fix hg k, hg]
theorem q_it_per {f : Nat → Nat} {x a d : Nat} (h : q_it f (a + d) x = q_it f a x) : ∀ m, q_it f (a + m * d) x = q_it f a x
  | 0 => by rw [Nat.zero_mul, Nat.add_zero]
  | m + 1 => by
    rw [show a + (m + 1) * d = d + (a + m * d) from by rw [Nat.succ_mul]; omega, q_it_add, q_it_per h m, ← q_it_add, Nat.add_comm d a, h]
theorem q_fix_far {f : Nat → Nat} {N : Nat} (hf : ∀ x, x < N → f x < N) (hN : N ≤ 128) {x g : Nat} (hx : x < N) (hg : f g = g) {k : Nat} (hk : 128 ≤ k) : q_it f k x = g ↔ q_it f 128 x = g := by
  constructor
  · intro h
    obtain ⟨a, b, h1, h2, h3⟩ := q_pig N (fun i => q_it f i x) (fun i _ => q_it_lt hf hx i)
    have h4 : q_it f (a + (b - a)) x = q_it f a x := by rw [show a + (b - a) = b from by omega]; exact h3.symm
    have h5 := q_it_per h4 k
    have hd : 1 ≤ b - a := by omega
    have h6 : k ≤ k * (b - a) := Nat.le_mul_of_pos_right k hd
    rw [show a + k * (b - a) = (a + k * (b - a) - k) + k from by omega, q_it_add, h, q_it_fix hg] at h5
    rw [show 128 = (128 - a) + a from by omega, q_it_add, ← h5, q_it_fix hg]
  · intro h
    rw [show k = (k - 128) + 128 from by omega, q_it_add, h, q_it_fix hg]
theorem q_cs0 {T : Nat → Nat → Nat} {n : Nat} {se : Int32} {S : Nat} : ∀ {i : Nat}, q_cs T n se S i = 0 → ∀ j, j < i → q_chg T n se j S = false
  | 0, _, j, hj => absurd hj (Nat.not_lt_zero _)
  | i + 1, h, j, hj => by
    rw [q_cs] at h
    cases hc : q_chg T n se i S with
    | true =>
      rw [hc, if_pos rfl] at h
      have h2 := congrArg (fun x => x.testBit i) h
      simp [Nat.testBit_or, Nat.testBit_two_pow_self] at h2
    | false =>
      rw [hc] at h
      by_cases e : j = i
      · rw [e]; exact hc
      · exact q_cs0 (by simpa using h) j (by omega)
theorem q_rn0 {T : Nat → Nat → Nat} {n : Nat} {se : Int32} {S : Nat} {t : Bool} : ∀ {i : Nat}, (∀ j, j < i → q_chg T n se j S = false) → q_rn T n se t S i = S
  | 0, _ => rfl
  | i + 1, h => by
    have ih := q_rn0 (T := T) (n := n) (se := se) (S := S) (t := t) (i := i) (fun j hj => h j (by omega))
    rw [q_rn, ih]
    have : (if t = true then S else S) = S := by split <;> rfl
    rw [this, h i (by omega)]
    rfl
theorem q_rs_rd {T : Nat → Nat → Nat} {n : Nat} {se : Int32} {S : Nat} {t : Bool} (h : q_rs T n se S = true) : q_rd T n se t S = S := q_rn0 (q_cs0 (of_decide_eq_true h))
theorem q_byT {g : Nat → Nat} {d : Nat} (h : (q_by g d).2 < nI (g (d + 1))) : q_by g (d + 1) = (d, nI (g (d + 1))) := by rw [q_by, if_pos h]
theorem q_byF {g : Nat → Nat} {d : Nat} (h : ¬ (q_by g d).2 < nI (g (d + 1))) : q_by g (d + 1) = q_by g d := by rw [q_by, if_neg h]
theorem q_baT {g : Nat → Int32} {d : Nat} (h : (q_ba g d).2 < g (d + 1)) : q_ba g (d + 1) = (d + 1, g (d + 1)) := by rw [q_ba, if_pos h]
theorem q_baF {g : Nat → Int32} {d : Nat} (h : ¬ (q_ba g d).2 < g (d + 1)) : q_ba g (d + 1) = q_ba g d := by rw [q_ba, if_neg h]
theorem q_g1T {T : Nat → Nat → Nat} {n i k : Nat} {s : Nat × Nat × Nat} (h1 : s.2.1 = k) (h2 : s.1.testBit i = false) : q_g1 T n i k s = (s.1 ||| 2 ^ i, s.2.1, q_oth T n i s.1) := by rw [q_g1, if_pos ⟨h1, h2⟩]
theorem q_g1F {T : Nat → Nat → Nat} {n i k : Nat} {s : Nat × Nat × Nat} (h : ¬ (s.2.1 = k ∧ s.1.testBit i = false)) : q_g1 T n i k s = s := by rw [q_g1, if_neg h]
theorem q_g2T {T : Nat → Nat → Nat} {n : Nat} {se : Int32} {i ow j : Nat} {s : Nat × Nat × Nat} (h1 : j < n) (h2 : ¬ j = i) (h3 : ow.testBit j = false) : q_g2 T n se i ow j s = ((if q_want T n se j s.1 then s.1 ||| 2 ^ j else s.1), s.2.1 + 1, s.2.2) := by rw [q_g2, if_pos ⟨h1, h2, h3⟩]
theorem q_g2F {T : Nat → Nat → Nat} {n : Nat} {se : Int32} {i ow j : Nat} {s : Nat × Nat × Nat} (h : ¬ (j < n ∧ ¬ j = i ∧ ow.testBit j = false)) : q_g2 T n se i ow j s = s := by rw [q_g2, if_neg h]
theorem q_g1_lt {T : Nat → Nat → Nat} {n i k : Nat} {s : Nat × Nat × Nat} (hi : i < n) (hs : s.1 < 2 ^ n) : (q_g1 T n i k s).1 < 2 ^ n := by
  rw [q_g1]; split
  · exact q_or_lt hs hi
  · exact hs
theorem q_g2_lt {T : Nat → Nat → Nat} {n : Nat} {se : Int32} {i ow j : Nat} {s : Nat × Nat × Nat} (hs : s.1 < 2 ^ n) : (q_g2 T n se i ow j s).1 < 2 ^ n := by
  rw [q_g2]
  by_cases h : j < n ∧ ¬ j = i ∧ ow.testBit j = false
  · rw [if_pos h]
    show (if q_want T n se j s.1 then s.1 ||| 2 ^ j else s.1) < 2 ^ n
    split
    · exact q_or_lt hs h.1
    · exact hs
  · rw [if_neg h]; exact hs
theorem q_gb_lt {T : Nat → Nat → Nat} {n : Nat} {se : Int32} {i k ow : Nat} (hi : i < n) (ho : ow < 2 ^ n) : ∀ j, (q_gb T n se i k ow j).1 < 2 ^ n
  | 0 => ho
  | j + 1 => q_g2_lt (q_g1_lt hi (q_gb_lt hi ho j))
theorem q_g1_c {T : Nat → Nat → Nat} {n i k : Nat} {s : Nat × Nat × Nat} : (q_g1 T n i k s).2.1 = s.2.1 := by
  rw [q_g1]; split <;> rfl
theorem q_gb_c {T : Nat → Nat → Nat} {n : Nat} {se : Int32} {i k ow : Nat} : ∀ j, (q_gb T n se i k ow j).2.1 ≤ j
  | 0 => Nat.le_refl 0
  | j + 1 => by
    have ih := q_gb_c (T := T) (n := n) (se := se) (i := i) (k := k) (ow := ow) j
    have e := q_g1_c (T := T) (n := n) (i := i) (k := k) (s := q_gb T n se i k ow j)
    show (q_g2 T n se i ow j (q_g1 T n i k (q_gb T n se i k ow j))).2.1 ≤ j + 1
    rw [q_g2]; split
    · show (q_g1 T n i k (q_gb T n se i k ow j)).2.1 + 1 ≤ j + 1
      omega
    · omega
theorem q_pop_n {n ow i : Nat} (hn : n ≤ 7) (ho : ow < 2 ^ n) (hi : i < n) (hb : ow.testBit i = false) : pop8 ow + 1 ≤ n := by
  have : ∀ n, n < 8 → ∀ i, i < n → ∀ ow, ow < 2 ^ n → ow.testBit i = false → pop8 ow + 1 ≤ n := by decide +kernel
  exact this n (by omega) i hi ow ho hb
theorem q_stT {g : Nat → Nat → Int32} {i j : Nat} {b mo v : Int32} (hv : g i j = v) (h : mo < v) : q_st g i j (b, mo) = (nI (10 * i + j), v) := by
  subst hv; rw [q_st, if_pos h]
theorem q_stF {g : Nat → Nat → Int32} {i j : Nat} {b mo v : Int32} (hv : g i j = v) (h : ¬ mo < v) : q_st g i j (b, mo) = (b, mo) := by
  subst hv; rw [q_st, if_neg h]
