/-! the reference's ways to the same numbers -/
def q_inb (a b c : Int64) : Bool := decide (b ≤ a ∧ a ≤ c)
theorem q_inb1 {a b c : Int64} (h : lg_cmp a b < 0) : q_inb a b c = false := decide_eq_false (fun z => Int64.not_lt.mpr z.1 ((lg_cmp_lt _ _).mp h))
theorem q_inb2 {a b c : Int64} (h : 0 < lg_cmp a c) : q_inb a b c = false := decide_eq_false (fun z => Int64.not_lt.mpr z.2 ((lg_cmp_gt _ _).mp h))
theorem q_inb3 {a b c : Int64} (h1 : ¬ lg_cmp a b < 0) (h2 : ¬ 0 < lg_cmp a c) : q_inb a b c = true := decide_eq_true ⟨Int64.not_lt.mp (fun z => h1 ((lg_cmp_lt _ _).mpr z)), Int64.not_lt.mp (fun z => h2 ((lg_cmp_gt _ _).mpr z))⟩
theorem q_in1 {i lo hi : Nat} {b c : Int64} (hb : b = lN lo) (hc : c = lN hi) (h1 : lo ≤ i) (h2 : i ≤ hi) (h3 : hi < 2147483648) : bI (q_inb (nI i).toInt64 b c) = bI true := by
  subst hb; subst hc
  rw [nI_l (by omega)]
  exact congrArg bI (decide_eq_true ⟨(lN_le (by omega) (by omega)).mpr h1, (lN_le (by omega) (by omega)).mpr h2⟩)
theorem q_in2 {i lo hi : Nat} {b c : Int64} (hb : b = lN lo) (hc : c = lN hi) (h1 : i < lo) (h3 : lo < 2147483648) : bI (q_inb (nI i).toInt64 b c) = bI false := by
  subst hb; subst hc
  rw [nI_l (by omega)]
  exact congrArg bI (decide_eq_false (fun z => absurd ((lN_le (by omega) (by omega)).mp z.1) (by omega)))
theorem q_64 (w : Int32) : w.toInt64.toInt = w.toInt := Int32.toInt_toInt64 w
theorem q_in0 {w : Int32} {lo hi N : Nat} {b c : Int64} (hb : b = lN lo) (hc : c = lN hi) (hN : N = hi + 1) (h : q_ix N w = none) (h3 : N < 2147483648) (hl : lo < 2147483648 := by decide) : bI (q_inb w.toInt64 b c) = bI false := by
  subst hb; subst hc
  refine congrArg bI (decide_eq_false (fun z => ?_))
  have z1 := Int64.le_iff_toInt_le.mp z.1
  have z2 := Int64.le_iff_toInt_le.mp z.2
  rw [q_64, lN_toInt (by omega)] at z2
  rw [q_64, lN_toInt (by omega)] at z1
  rcases q_ixN h3 h with h4 | h4
  · rw [Int32.lt_iff_toInt_lt] at h4
    have h5 : w.toInt < 0 := h4
    omega
  · rw [Int32.le_iff_toInt_le, nI_toInt (by omega)] at h4; omega
theorem q_lk0 {k : Nat} (hk : k < 2147483648) : (nI k).toInt64 = lN k := nI_l (by omega)
theorem q_ine {w : Int32} (h : q_eit w = false) : bI (q_inb w.toInt64 (0 : Int64) (1 : Int64)) = bI false := by
  refine q_in0 (lo := 0) (hi := 1) (N := 2) rfl rfl rfl ?_ (by decide)
  have h1 := q_eitN h
  cases hi : q_ix 2 w with
  | none => rfl
  | some i =>
    have h2 := q_ixS hi
    rcases (by omega : i = 0 ∨ i = 1) with e | e
    · exact absurd (by rw [h2.1, e]) h1.1
    · exact absurd (by rw [h2.1, e]) h1.2
theorem q_inP {w : Int32} {n : Nat} (hn1 : 1 ≤ n) (hn : n < 2147483648) : bI (q_inb w.toInt64 (0 : Int64) (nI (n - 1)).toInt64) = bI (q_ix n w).isSome := by
  cases hi : q_ix n w with
  | none => exact q_in0 (lo := 0) (hi := n - 1) (N := n) rfl (q_lk0 (by omega)) (by omega) hi hn
  | some i =>
    have h2 := q_ixS hi
    rw [h2.1]
    exact q_in1 (lo := 0) (hi := n - 1) rfl (q_lk0 (by omega)) (Nat.zero_le _) (by omega) (by omega)
theorem q_shr {S i : Nat} (hS : S < 128) (hi : i < 8) : (nI S >>> (nI i &&& 31)) &&& nI 1 = nI (S.testBit i).toNat := by
  have : ∀ i, i < 8 → ∀ S, S < 128 → (nI S >>> (nI i &&& 31)) &&& nI 1 = nI (S.testBit i).toNat := by decide +kernel
  exact this i hi S hS
theorem q_pop_dec {x : Nat} (hx : x < 256) (h0 : ¬ x = 0) : pop8 (x &&& (x - 1)) + 1 = pop8 x := by
  have : ∀ x, x < 256 → ¬ x = 0 → pop8 (x &&& (x - 1)) + 1 = pop8 x := by decide +kernel
  exact this x hx h0
def q_hx (T : Nat → Nat → Nat) (S own : Nat) : Nat → Nat
  | 0 => 0
  | i + 1 => if S.testBit i = true ∧ ¬ T i 3 = own then q_hx T S own i ||| 2 ^ T i 3 else q_hx T S own i
theorem q_wo_or {x h own : Nat} (hx : x < 256) (hh : h < 8) (ho : own < 8) : q_wo (x ||| 2 ^ h) own = if h = own then q_wo x own else q_wo x own ||| 2 ^ h := by
  have : ∀ own, own < 8 → ∀ h, h < 8 → ∀ x, x < 256 → q_wo (x ||| 2 ^ h) own = if h = own then q_wo x own else q_wo x own ||| 2 ^ h := by decide +kernel
  exact this own ho h hh x hx
theorem q_hxE {T : Nat → Nat → Nat} {S own : Nat} (ho : own < 8) : ∀ {i : Nat}, (∀ j, j < i → T j 3 < 8) → q_hx T S own i = q_wo (q_hm T S i) own
  | 0, _ => by simp [q_hx, q_hm, q_wo]
  | i + 1, h => by
    have ih := q_hxE (T := T) (S := S) ho (i := i) (fun j hj => h j (by omega))
    have hl := q_hm_lt (T := T) (S := S) (n := i) (fun j hj => h j (by omega))
    rw [q_hx, q_hm, ih]
    by_cases hb : S.testBit i = true
    · rw [if_pos hb, q_wo_or hl (h i (by omega)) ho]
      by_cases e : T i 3 = own
      · rw [if_pos e, if_neg (fun z => z.2 e)]
      · rw [if_neg e, if_pos ⟨hb, e⟩]
    · rw [if_neg hb, if_neg (fun z => hb z.1)]
theorem q_hx_lt {T : Nat → Nat → Nat} {S own n : Nat} (hB : q_Bd T n) (ho : own < 8) {i : Nat} (hi : i ≤ n) : q_hx T S own i < 256 := by
  rw [q_hxE ho (fun j hj => (hB.2 j (by omega)).2.2.2.1)]
  exact q_wo_lt (q_hm_lt (fun j hj => (hB.2 j (by omega)).2.2.2.1))
theorem q_as (a b c : Int32) : a + b - c = a + (b - c) := by rw [Int32.sub_eq_add_neg, Int32.sub_eq_add_neg, Int32.add_assoc]
def q_wB (T : Nat → Nat → Nat) (n : Nat) (se : Int32) (i S : Nat) : Bool := !S.testBit i && q_want T n se i S
def q_wT (T : Nat → Nat → Nat) (n : Nat) (se : Int32) (i S : Nat) : Bool := S.testBit i && decide (q_wor T n se i S < 0)
theorem q_chg1 {T : Nat → Nat → Nat} {n : Nat} {se : Int32} {i S : Nat} (h : q_wB T n se i S = true) : q_chg T n se i S = true := by
  unfold q_wB at h
  unfold q_chg
  cases hb : S.testBit i with
  | true => rw [hb] at h; simp at h
  | false => rw [hb] at h; simpa using h
theorem q_chg2 {T : Nat → Nat → Nat} {n : Nat} {se : Int32} {i S : Nat} (h : q_wT T n se i S = true) : q_chg T n se i S = true := by
  unfold q_wT at h
  unfold q_chg
  cases hb : S.testBit i with
  | true => rw [hb] at h; simpa using h
  | false => rw [hb] at h; simp at h
theorem q_chg0 {T : Nat → Nat → Nat} {n : Nat} {se : Int32} {i S : Nat} (h1 : q_wB T n se i S = false) (h2 : q_wT T n se i S = false) : q_chg T n se i S = false := by
  unfold q_wT at h2
  unfold q_wB at h1
  unfold q_chg
  cases hb : S.testBit i with
  | true => rw [hb] at h2; simpa using h2
  | false => rw [hb] at h1; simpa using h1
/-- where a ROUND changes nothing it RESTS -/
theorem q_rn_bit {T : Nat → Nat → Nat} {n : Nat} {se : Int32} {t : Bool} {S j : Nat} : ∀ {k : Nat}, j < k → (q_rn T n se t S k).testBit j = (q_rn T n se t S (j + 1)).testBit j
  | 0, h => absurd h (Nat.not_lt_zero _)
  | k + 1, h => by
    by_cases e : j = k
    · rw [e]
    · have ih := q_rn_bit (T := T) (n := n) (se := se) (t := t) (S := S) (j := j) (k := k) (by omega)
      rw [q_rn]
      by_cases hc : q_chg T n se k (if t then q_rn T n se t S k else S) = true
      · rw [if_pos hc, Nat.testBit_xor, Nat.testBit_two_pow, ih]
        rw [decide_eq_false (by omega)]; simp
      · rw [if_neg hc, ih]
theorem q_rd_rs {T : Nat → Nat → Nat} {n : Nat} {se : Int32} {t : Bool} {S : Nat} (h : q_rd T n se t S = S) : q_rs T n se S = true := by
  have key : ∀ i, i ≤ n → ∀ j, j < i → q_chg T n se j S = false := by
    intro i
    induction i with
    | zero => intro _ j hj; exact absurd hj (Nat.not_lt_zero _)
    | succ i ih =>
      intro hi j hj
      have ihi := ih (by omega)
      by_cases e : j = i
      · subst e
        cases hc : q_chg T n se j S with
        | false => rfl
        | true =>
          have h0 := q_rn0 (t := t) ihi
          have h1 : q_rn T n se t S (j + 1) = S ^^^ 2 ^ j := by
            rw [q_rn, h0]
            have : (if t = true then S else S) = S := by split <;> rfl
            rw [this, if_pos hc]
          have h2 := q_rn_bit (T := T) (n := n) (se := se) (t := t) (S := S) (j := j) (k := n) (by omega)
          rw [show q_rn T n se t S n = S from h, h1, Nat.testBit_xor, Nat.testBit_two_pow_self] at h2
          cases hb : S.testBit j <;> rw [hb] at h2 <;> simp at h2
      · exact ihi j (by omega)
  have h0 : ∀ i, i ≤ n → q_cs T n se S i = 0 := by
    intro i
    induction i with
    | zero => intro _; rfl
    | succ i ih =>
      intro hi
      rw [q_cs, key n (Nat.le_refl n) i (by omega)]
      simpa using ih (by omega)
  exact decide_eq_true (h0 n (Nat.le_refl n))
theorem q_rsF {T : Nat → Nat → Nat} {n : Nat} {se : Int32} {t : Bool} {S : Nat} (h : ¬ q_rd T n se t S = S) : q_rs T n se S = false := by
  cases hr : q_rs T n se S with
  | false => rfl
  | true => exact absurd (q_rs_rd hr) h
theorem q_nofix {f : Nat → Nat} {N x : Nat} (hf : ∀ x, x < N → f x < N) (hN : N ≤ 128) (hx : x < N) (hg : f (q_it f 128 x) = q_it f 128 x) : ∃ k, k < 128 ∧ f (q_it f k x) = q_it f k x := by
  obtain ⟨a, b, h1, h2, h3⟩ := q_pig N (fun i => q_it f i x) (fun i _ => q_it_lt hf hx i)
  have h4 : q_it f (a + (b - a)) x = q_it f a x := by rw [show a + (b - a) = b from by omega]; exact h3.symm
  have h5 := q_it_per h4 128
  have hd : 1 ≤ b - a := by omega
  have h6 : 128 ≤ 128 * (b - a) := Nat.le_mul_of_pos_right 128 hd
  rw [show a + 128 * (b - a) = (a + 128 * (b - a) - 128) + 128 from by omega, q_it_add, q_it_fix hg] at h5
  exact ⟨a, by omega, by rw [← h5, hg]⟩
theorem q_per {f : Nat → Nat} {N x : Nat} (hf : ∀ x, x < N → f x < N) (hN : N ≤ 128) (hx : x < N) : ∃ p, 1 ≤ p ∧ p ≤ 128 ∧ q_it f p (q_it f 128 x) = q_it f 128 x := by
  obtain ⟨a, b, h1, h2, h3⟩ := q_pig N (fun i => q_it f i x) (fun i _ => q_it_lt hf hx i)
  refine ⟨b - a, by omega, by omega, ?_⟩
  rw [← q_it_add, show b - a + 128 = (128 - a) + b from by omega, q_it_add, ← h3, ← q_it_add, show 128 - a + a = 128 from by omega]
theorem q_it_S (f : Nat → Nat) (k x : Nat) : q_it f (k + 1) x = f (q_it f k x) := rfl
theorem q_mN1 {P : Nat → Bool} {s : Nat} (h : q_min P s = none) (hp : P s = true) : q_min P (s + 1) = some s := by rw [q_min, h]; exact if_pos hp
theorem q_mS1 {P : Nat → Bool} {s b : Nat} (h : q_min P s = some b) (hp : P s = true) (hl : pop8 s < pop8 b) : q_min P (s + 1) = some s := by rw [q_min, h]; exact if_pos ⟨hp, hl⟩
theorem q_mS2 {P : Nat → Bool} {s b : Nat} (h : q_min P s = some b) (hl : ¬ pop8 s < pop8 b) : q_min P (s + 1) = some b := by rw [q_min, h]; exact if_neg (fun z => hl z.2)
def q_Pm (T : Nat → Nat → Nat) (n : Nat) (se : Int32) (t : Bool) (ow g p : Nat) : Bool := decide (q_it (q_rd T n se t) 128 (ow ^^^ p) = g) && q_rs T n se g
theorem q_min0 {P : Nat → Bool} (h : ∀ s, P s = false) : ∀ N, q_min P N = none
  | 0 => rfl
  | N + 1 => by rw [q_minF (h N), q_min0 h N]
theorem q_min_c {P Q : Nat → Bool} (h : ∀ s, P s = Q s) : ∀ N, q_min P N = q_min Q N
  | 0 => rfl
  | N + 1 => by rw [q_min, q_min, q_min_c h N, h N]
theorem q_PmE {T : Nat → Nat → Nat} {n : Nat} {se : Int32} {t : Bool} {ow g : Nat} : q_min (q_Pm T n se t ow g) (2 ^ n) = q_tpo T n se t ow g := by
  unfold q_tpo
  cases hr : q_rs T n se g with
  | true => rw [if_pos rfl]; exact q_min_c (fun s => by unfold q_Pm q_P1; rw [hr, Bool.and_true]) _
  | false => rw [if_neg (by decide)]; exact q_min0 (fun s => by unfold q_Pm; rw [hr, Bool.and_false]) _
theorem q_min_cut {P : Nat → Bool} {a : Nat} (h : ∀ s, a ≤ s → P s = false) : ∀ {N : Nat}, a ≤ N → q_min P N = q_min P a
  | 0, hN => by rw [show a = 0 from by omega]
  | N + 1, hN => by
    by_cases e : a = N + 1
    · rw [e]
    · rw [q_minF (h N (by omega)), q_min_cut h (by omega)]
theorem q_nd0 {s ow : Nat} (hs : s < 128) (ho : ow < 128) (h : q_nd s ow = 0) : s ≤ ow := by
  have : ∀ ow, ow < 128 → ∀ s, s < 128 → q_nd s ow = 0 → s ≤ ow := by decide +kernel
  exact this ow ho s hs h
theorem q_bn_cut {T : Nat → Nat → Nat} {n : Nat} {se : Int32} {i ow : Nat} (ho : ow < 128) {N : Nat} (hN : N ≤ 128) (hl : ow < N) : q_min (q_bn T n se i ow) N = q_min (q_bn T n se i ow) (ow + 1) := by
  have key : ∀ M, M ≤ 128 → ow + 1 ≤ M → q_min (q_bn T n se i ow) M = q_min (q_bn T n se i ow) (ow + 1) := by
    intro M
    induction M with
    | zero => intro _ h; omega
    | succ M ih =>
      intro h1 h2
      by_cases e : ow + 1 = M + 1
      · rw [e]
      · rw [q_minF (q_bnG (fun z => absurd (q_nd0 (by omega) ho z) (by omega))), ih (by omega) (by omega)]
  exact key N hN (by omega)
theorem q_nd_bit {s ow i : Nat} (h : ow.testBit i = false) : (q_nd ow s).testBit i = false := by unfold q_nd; rw [Nat.testBit_and, h, Bool.false_and]
theorem q_wBn {T : Nat → Nat → Nat} {n : Nat} {se : Int32} {i S : Nat} (h : S.testBit i = false) : q_wB T n se i S = q_want T n se i S := by unfold q_wB; rw [h]; rfl
theorem q_g1_bit {T : Nat → Nat → Nat} {n i k j : Nat} {s : Nat × Nat × Nat} (hj : ¬ j = i) : (q_g1 T n i k s).1.testBit j = s.1.testBit j := by
  rw [q_g1]; split
  · show (s.1 ||| 2 ^ i).testBit j = _
    rw [Nat.testBit_or, Nat.testBit_two_pow, decide_eq_false (fun z => hj z.symm), Bool.or_false]
  · rfl
theorem q_gb_bit {T : Nat → Nat → Nat} {n : Nat} {se : Int32} {i k ow q : Nat} (hq : ¬ q = i) (ho : ow.testBit q = false) : ∀ j, j ≤ q → (q_gb T n se i k ow j).1.testBit q = false
  | 0, _ => ho
  | j + 1, h => by
    have ih := q_gb_bit (T := T) (n := n) (se := se) (k := k) hq ho j (by omega)
    have h1 : (q_g1 T n i k (q_gb T n se i k ow j)).1.testBit q = false := by rw [q_g1_bit hq]; exact ih
    show (q_g2 T n se i ow j (q_g1 T n i k (q_gb T n se i k ow j))).1.testBit q = false
    rw [q_g2]
    by_cases hc : j < n ∧ ¬ j = i ∧ ow.testBit j = false
    · rw [if_pos hc]
      show (if q_want T n se j (q_g1 T n i k (q_gb T n se i k ow j)).1 then (q_g1 T n i k (q_gb T n se i k ow j)).1 ||| 2 ^ j else (q_g1 T n i k (q_gb T n se i k ow j)).1).testBit q = false
      split
      · rw [Nat.testBit_or, Nat.testBit_two_pow, decide_eq_false (by omega), h1]; rfl
      · exact h1
    · rw [if_neg hc]; exact h1
/-- the best so far: none ahead of the first -/
def q_bb (g : Nat → Int32) : Nat → Int32 × Int32
  | 0 => ((-4 : Int32), nI 0)
  | k + 1 => (nI (q_ba g k).1, (q_ba g k).2)
theorem q_bb0 {g : Nat → Int32} : q_bb g 1 = (nI 0, g 0) := rfl
theorem q_bbT {g : Nat → Int32} {k : Nat} (h : (q_ba g k).2 < g (k + 1)) : q_bb g (k + 2) = (nI (k + 1), g (k + 1)) := by show (nI (q_ba g (k + 1)).1, (q_ba g (k + 1)).2) = _; rw [q_baT h]
theorem q_bbF {g : Nat → Int32} {k : Nat} (h : ¬ (q_ba g k).2 < g (k + 1)) : q_bb g (k + 2) = q_bb g (k + 1) := by show (nI (q_ba g (k + 1)).1, (q_ba g (k + 1)).2) = (nI (q_ba g k).1, (q_ba g k).2); rw [q_baF h]
-- the reference's cells
def q_MT (T : Nat → Nat → Nat) (n : Nat) (mK mW mC mH : Nat → Int32) : Prop := ∀ i, i < n → mK i = nI (T i 0) ∧ mW i = nI (T i 1) ∧ mC i = nI (T i 2) ∧ mH i = nI (T i 3)
def q_Tm (tn : Nat) (tf : Nat → Nat) (mT : Nat → Int32) : Prop := tn ≤ 300 ∧ ∀ j, j < tn → tf j < 256 ∧ mT j = nI (tf j)
def q_Mi (mo n u : Nat) (O : Nat → Nat) (Q : Nat → Nat → Nat) (rows : Nat → Int32) : Prop := u ≤ mo ∧ ∀ j, j < u → O j < 2 ^ n ∧ rows (8 * j) = nI (O j) ∧ ∀ i, i < n → rows (8 * j + 1 + i) = nI (Q j i)
def q_Rd (R : Nat → Nat → Nat) (m : Nat) (mR : Nat → Int32) : Prop := ∀ i, i < m → ∀ k, k < 5 → mR (5 * i + k) = nI (R i k)
theorem q_tn0 {b : Bool} (h : ¬ b.toNat = 1) : b = false := by cases b with | false => rfl | true => exact absurd rfl h
theorem q_tn1 {b : Bool} (h : b.toNat = 1) : b = true := by cases b with | true => rfl | false => cases h
