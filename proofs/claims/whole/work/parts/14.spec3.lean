/-! texts: bytes, figures, numbers, items -/
def q_byt (b : Nat) : Int32 := vp_nar .byte ((nI b).toInt8.toInt32)
theorem q_byt255 {b : Nat} (h : b < 256) : q_byt b &&& nI 255 = nI b := by
  have : ∀ b, b < 256 → q_byt b &&& nI 255 = nI b := by decide +kernel
  exact this b h
def q_Tx (tn : Nat) (tf : Nat → Nat) (tby : Nat → Int32) : Prop := tn ≤ 300 ∧ ∀ j, j < tn → tf j < 256 ∧ tby j = q_byt (tf j)
def q_bat (tn : Nat) (tf : Nat → Nat) (p : Nat) : Int32 := if p < tn then nI (tf p) else (-1 : Int32)
def q_dg (tn : Nat) (tf : Nat → Nat) (p : Nat) : Option Nat := if p < tn ∧ 48 ≤ tf p ∧ tf p ≤ 57 then some (tf p - 48) else none
def q_o1 : Option Nat → Int32
  | none => (-1 : Int32)
  | some v => nI v
def q_fig (w : Int32) : Int32 := if w < nI 48 then (-1 : Int32) else if nI 57 < w then (-1 : Int32) else w - nI 48
def q_num (tn : Nat) (tf : Nat → Nat) (p : Nat) : Option Nat × Nat :=
  match q_dg tn tf p with
  | none => (none, p)
  | some a => match q_dg tn tf (p + 1) with
    | none => (some a, p + 1)
    | some b => (some (10 * a + b), p + 2)
def q_ns (tn : Nat) (tf : Nat → Nat) : Nat → Nat → Option (List Nat × Nat)
  | 0, p => some ([], p)
  | c + 1, p => match (q_num tn tf p).1 with
    | none => none
    | some v => if (q_num tn tf p).2 < tn ∧ tf (q_num tn tf p).2 = (if c = 0 then 59 else 44) then
        (match q_ns tn tf c ((q_num tn tf p).2 + 1) with
        | none => none
        | some x => some (v :: x.1, x.2)) else none
def q_adOk (m k0 k2 k3 : Nat) : Bool := decide (m < 7 ∧ k0 ≤ 3 ∧ k2 ≤ 18 ∧ k3 < 8)
def q_upT (R : Nat → Nat → Nat) (m k0 k1 k2 k3 k4 : Nat) : Nat → Nat → Nat := fun i k => if i = m then (if k = 0 then k0 else if k = 1 then k1 else if k = 2 then k2 else if k = 3 then k3 else k4) else R i k
def q_item (tn : Nat) (tf : Nat → Nat) (m : Nat) (R : Nat → Nat → Nat) (fo se p : Nat) : Option (Nat × (Nat → Nat → Nat) × Nat × Nat × Nat) :=
  if tf p = 112 then (match q_ns tn tf 5 (p + 1) with
    | none => none
    | some x => if q_adOk m (x.1.getD 0 0) (x.1.getD 2 0) (x.1.getD 3 0) then some (m + 1, q_upT R m (x.1.getD 0 0) (x.1.getD 1 0) (x.1.getD 2 0) (x.1.getD 3 0) (x.1.getD 4 0), fo, se, x.2) else none)
  else if tf p = 111 then (match q_ns tn tf 1 (p + 1) with
    | none => none
    | some x => if x.1.getD 0 0 < m then some (m, R, fo ||| 2 ^ (x.1.getD 0 0), se, x.2) else none)
  else if tf p = 115 then (match q_ns tn tf 1 (p + 1) with
    | none => none
    | some x => some (m, R, fo, x.1.getD 0 0, x.2))
  else none
def q_fa (tn : Nat) (tf : Nat → Nat) : Nat → Nat → Nat → (Nat → Nat → Nat) → Nat → Nat → Option Nat × Nat × (Nat → Nat → Nat) × Nat × Nat
  | 0, _, m, R, fo, se => (none, m, R, fo, se)
  | f + 1, p, m, R, fo, se => if p < tn then (match q_item tn tf m R fo se p with
      | none => (some p, m, R, fo, se)
      | some x => q_fa tn tf f x.2.2.2.2 x.1 x.2.1 x.2.2.1 x.2.2.2.1) else (none, m, R, fo, se)
def q_fl (tn : Nat) (tf : Nat → Nat) : Option Nat × Nat × (Nat → Nat → Nat) × Nat × Nat := q_fa tn tf 300 0 0 (fun _ _ => 0) 0 50
theorem q_dg_le {tn : Nat} {tf : Nat → Nat} {p a : Nat} (h : q_dg tn tf p = some a) : a ≤ 9 ∧ p < tn := by
  unfold q_dg at h
  by_cases hc : p < tn ∧ 48 ≤ tf p ∧ tf p ≤ 57
  · rw [if_pos hc] at h
    have := Option.some.inj h
    omega
  · rw [if_neg hc] at h; cases h
theorem q_figB {tn : Nat} {tf : Nat → Nat} {tby : Nat → Int32} (hTx : q_Tx tn tf tby) (p : Nat) : q_fig (q_bat tn tf p) = q_o1 (q_dg tn tf p) := by
  unfold q_bat q_dg
  by_cases hp : p < tn
  · have hb := (hTx.2 p hp).1
    rw [if_pos hp, q_fig]
    by_cases h1 : tf p < 48
    · rw [if_pos ((nI_ltI (by omega) (by omega)).mpr h1), if_neg (by omega)]; rfl
    · rw [if_neg (fun z => h1 ((nI_ltI (by omega) (by omega)).mp z))]
      by_cases h2 : 57 < tf p
      · rw [if_pos ((nI_ltI (by omega) (by omega)).mpr h2), if_neg (by omega)]; rfl
      · rw [if_neg (fun z => h2 ((nI_ltI (by omega) (by omega)).mp z)), if_pos (by omega)]
        exact q_sub (by omega)
  · rw [if_neg hp, if_neg (fun z => hp z.1)]
    decide
theorem q_num_2 (tn : Nat) (tf : Nat → Nat) (p : Nat) : (q_num tn tf p).2 ≤ p + 2 := by
  unfold q_num
  split
  · show p ≤ p + 2; omega
  · split
    · show p + 1 ≤ p + 2; omega
    · show p + 2 ≤ p + 2; omega
theorem q_num_ge (tn : Nat) (tf : Nat → Nat) (p : Nat) : p ≤ (q_num tn tf p).2 := by
  unfold q_num
  split
  · show p ≤ p; omega
  · split
    · show p ≤ p + 1; omega
    · show p ≤ p + 2; omega
theorem q_num_le {tn : Nat} {tf : Nat → Nat} {p v : Nat} (h : (q_num tn tf p).1 = some v) : v ≤ 99 := by
  unfold q_num at h
  split at h
  · cases h
  · rename_i a ha
    have := (q_dg_le ha).1
    split at h
    · have := Option.some.inj h; omega
    · rename_i b hb
      have := (q_dg_le hb).1
      have := Option.some.inj h; omega
theorem q_batEq {tn : Nat} {tf : Nat → Nat} {tby : Nat → Int32} (hTx : q_Tx tn tf tby) {p b : Nat} (hb : b < 256) : q_bat tn tf p = nI b ↔ p < tn ∧ tf p = b := by
  unfold q_bat
  by_cases hp : p < tn
  · have h1 := (hTx.2 p hp).1
    rw [if_pos hp, nI_eq (by omega) (by omega)]
    exact ⟨fun h => ⟨hp, h⟩, fun h => h.2⟩
  · rw [if_neg hp]
    constructor
    · intro h
      have : ∀ b, b < 256 → ¬ (-1 : Int32) = nI b := by decide +kernel
      exact absurd h (this b hb)
    · intro h; exact absurd h.1 hp
theorem q_ns_n1 {tn : Nat} {tf : Nat → Nat} {c p : Nat} (ho : (q_num tn tf p).1 = none) : q_ns tn tf (c + 1) p = none := by rw [q_ns, ho]
theorem q_ns_n2 {tn : Nat} {tf : Nat → Nat} {c p v : Nat} (ho : (q_num tn tf p).1 = some v) (h : ¬ ((q_num tn tf p).2 < tn ∧ tf (q_num tn tf p).2 = (if c = 0 then 59 else 44))) : q_ns tn tf (c + 1) p = none := by
  rw [q_ns, ho]; exact if_neg h
theorem q_ns_s {tn : Nat} {tf : Nat → Nat} {c p v : Nat} (ho : (q_num tn tf p).1 = some v) (h : (q_num tn tf p).2 < tn ∧ tf (q_num tn tf p).2 = (if c = 0 then 59 else 44)) :
    q_ns tn tf (c + 1) p = (match q_ns tn tf c ((q_num tn tf p).2 + 1) with | none => none | some x => some (v :: x.1, x.2)) := by
  rw [q_ns, ho]; exact if_pos h
theorem q_ns_le {tn : Nat} {tf : Nat → Nat} : ∀ {c p : Nat} {x : List Nat × Nat}, q_ns tn tf c p = some x → ∀ k, x.1.getD k 0 ≤ 99
  | 0, p, x, h, k => by rw [q_ns] at h; cases h; simp
  | c + 1, p, x, h, k => by
    cases ho : (q_num tn tf p).1 with
    | none => rw [q_ns_n1 ho] at h; cases h
    | some v =>
      by_cases hc : (q_num tn tf p).2 < tn ∧ tf (q_num tn tf p).2 = (if c = 0 then 59 else 44)
      · rw [q_ns_s ho hc] at h
        cases hr : q_ns tn tf c ((q_num tn tf p).2 + 1) with
        | none => rw [hr] at h; cases h
        | some y =>
          rw [hr] at h
          cases h
          cases k with
          | zero => exact q_num_le ho
          | succ k => exact q_ns_le hr k
      · rw [q_ns_n2 ho hc] at h; cases h
/-- where the numbers end -/
theorem q_ns_p {tn : Nat} {tf : Nat → Nat} : ∀ {c p : Nat} {x : List Nat × Nat}, q_ns tn tf c p = some x → p ≤ x.2 ∧ (0 < c → x.2 ≤ tn)
  | 0, p, x, h => by rw [q_ns] at h; cases h; exact ⟨Nat.le_refl _, fun z => absurd z (Nat.lt_irrefl 0)⟩
  | c + 1, p, x, h => by
    cases ho : (q_num tn tf p).1 with
    | none => rw [q_ns_n1 ho] at h; cases h
    | some v =>
      by_cases hc : (q_num tn tf p).2 < tn ∧ tf (q_num tn tf p).2 = (if c = 0 then 59 else 44)
      · rw [q_ns_s ho hc] at h
        cases hr : q_ns tn tf c ((q_num tn tf p).2 + 1) with
        | none => rw [hr] at h; cases h
        | some y =>
          rw [hr] at h
          cases h
          have h1 := q_ns_p hr
          have h2 := q_num_ge tn tf p
          refine ⟨by show p ≤ y.2; omega, fun _ => ?_⟩
          show y.2 ≤ tn
          by_cases hz : c = 0
          · subst hz
            rw [q_ns] at hr
            cases hr
            show (q_num tn tf p).2 + 1 ≤ tn
            omega
          · exact h1.2 (by omega)
      · rw [q_ns_n2 ho hc] at h; cases h
theorem q_isS {α : Type} {o : Option α} (h : o.isSome = true) : ∃ x, o = some x := by
  cases o with
  | none => cases h
  | some x => exact ⟨x, rfl⟩
theorem q_isN {α : Type} {o : Option α} (h : o.isSome = false) : o = none := by
  cases o with
  | none => rfl
  | some x => cases h
theorem q_TrUp {R : Nat → Nat → Nat} {m : Nat} {tr : Nat → Int32} (h : q_Tr R m tr) (k0 k1 k2 k3 k4 : Nat) :
    q_Tr (q_upT R m k0 k1 k2 k3 k4) (m + 1) (upd (upd (upd (upd (upd tr ((m * 5) + 0) (nI k0)) ((m * 5) + 1) (nI k1)) ((m * 5) + 2) (nI k2)) ((m * 5) + 3) (nI k3)) ((m * 5) + 4) (nI k4)) := by
  intro i hi k hk
  unfold q_upT upd
  by_cases e : i = m
  · subst e
    rw [if_pos rfl]
    rcases (by omega : k = 0 ∨ k = 1 ∨ k = 2 ∨ k = 3 ∨ k = 4) with rfl | rfl | rfl | rfl | rfl <;> simp
  · rw [if_neg e, if_neg (by omega), if_neg (by omega), if_neg (by omega), if_neg (by omega), if_neg (by omega)]
    exact h i (by omega) k hk
/-! piles of owners and pennies -/
def q_pb (mo u : Nat) : Nat := if u < mo then u else mo - 1
/-! homes by sets -/
theorem q_hm_c {T : Nat → Nat → Nat} {S S2 : Nat} : ∀ {i : Nat}, (∀ j, j < i → S.testBit j = S2.testBit j) → q_hm T S i = q_hm T S2 i
  | 0, _ => rfl
  | i + 1, h => by
    rw [q_hm, q_hm, q_hm_c (T := T) (S := S) (S2 := S2) (i := i) (fun j hj => h j (by omega)), h i (by omega)]
theorem q_hm_0 (T : Nat → Nat → Nat) : ∀ i, q_hm T 0 i = 0
  | 0 => rfl
  | i + 1 => by rw [q_hm, Nat.zero_testBit]; simpa using q_hm_0 T i
theorem q_or_add {a i : Nat} (h : a < 2 ^ i) : a ||| 2 ^ i = 2 ^ i + a := by
  have h2 := Nat.two_pow_add_eq_or_of_lt h 1
  rw [Nat.mul_one] at h2
  rw [Nat.or_comm, ← h2]
theorem q_hm_hi {T : Nat → Nat → Nat} {i a : Nat} (h : a < 2 ^ i) : q_hm T (2 ^ i + a) (i + 1) = q_hm T a i ||| 2 ^ T i 3 := by
  rw [q_hm, Nat.testBit_two_pow_add_eq, Nat.testBit_lt_two_pow h]
  rw [if_pos (by rfl)]
  congr 1
  exact q_hm_c fun j hj => Nat.testBit_two_pow_add_gt hj a
theorem q_hm_lo {T : Nat → Nat → Nat} {i a : Nat} (h : a < 2 ^ i) : q_hm T a (i + 1) = q_hm T a i := by
  rw [q_hm, Nat.testBit_lt_two_pow h]; simp
/-- the likings that fit -/
def q_f1 (T : Nat → Nat → Nat) (i v : Nat) (SP SO : Nat → Nat) (SB : Nat → Bool) (k : Nat) : Bool := !(decide (SP k = i)) || (decide (nI (SO k) < q_wby (T i 0) (nI v) (T i 2) (SO k)) == SB k)
def q_ft (T : Nat → Nat → Nat) (i v : Nat) (SP SO : Nat → Nat) (SB : Nat → Bool) : Nat → Bool
  | 0 => true
  | k + 1 => q_ft T i v SP SO SB k && q_f1 T i v SP SO SB k
theorem q_ftF {T : Nat → Nat → Nat} {i v : Nat} {SP SO : Nat → Nat} {SB : Nat → Bool} {k : Nat} (h : q_f1 T i v SP SO SB k = false) : ∀ {c : Nat}, k < c → q_ft T i v SP SO SB c = false
  | 0, hc => absurd hc (Nat.not_lt_zero _)
  | c + 1, hc => by
    rw [q_ft]
    by_cases e : k = c
    · rw [← e, h, Bool.and_false]
    · rw [q_ftF h (by omega), Bool.false_and]
theorem q_50 (x : Int32) : x + (nI 50 - nI 50) = x := by rw [q_sub (Nat.le_refl 50)]; show x + 0 = x; simp
theorem q_preS {pre : List Nat} {k v : Nat} {g : Nat → Int32} (h : pre.length = k ∧ ∀ i, i < k → g i = nI (pre.getD i 0)) : (pre ++ [v]).length = k + 1 ∧ ∀ i, i < k + 1 → upd g k (nI v) i = nI ((pre ++ [v]).getD i 0) := by
  refine ⟨by rw [List.length_append, h.1]; rfl, fun i hi => ?_⟩
  unfold upd
  by_cases e : i = k
  · subst e
    rw [if_pos rfl, List.getD_eq_getElem?_getD, List.getElem?_append_right (by omega), h.1]
    simp
  · rw [if_neg e, h.2 i (by omega), List.getD_eq_getElem?_getD, List.getD_eq_getElem?_getD, List.getElem?_append_left (by omega)]
theorem q_nsS {A : Option (List Nat × Nat)} {o : Option (List Nat × Nat)} {pre : List Nat} {v : Nat}
    (h : A.isSome = (match o with | none => none | some x => some (v :: x.1, x.2) : Option (List Nat × Nat)).isSome ∧ ∀ x, (match o with | none => none | some x => some (v :: x.1, x.2) : Option (List Nat × Nat)) = some x → A = some (pre ++ x.1, x.2)) :
    A.isSome = o.isSome ∧ ∀ x, o = some x → A = some ((pre ++ [v]) ++ x.1, x.2) := by
  cases o with
  | none => exact ⟨h.1, fun x hx => by cases hx⟩
  | some y =>
    refine ⟨h.1, fun x hx => ?_⟩
    cases hx
    have := h.2 (v :: y.1, y.2) rfl
    rw [this]
    simp
/-- a row whose eights move down -/
theorem q_shS {q RL : Nat} {g rw1 : Nat → Int32} (hq8 : 8 ≤ q ∧ q ≤ RL) (hg1 : ∀ j, j + 8 < q → g j = rw1 (j + 8)) (hg2 : ∀ j, q ≤ j + 8 → g j = rw1 j) : ∀ j, j + 8 < q + 1 → upd g (q - 8) (g q) j = rw1 (j + 8) := by
  intro j hj
  unfold upd
  by_cases e : j = q - 8
  · rw [if_pos e, hg2 q (by omega)]; congr 1; omega
  · rw [if_neg e]; exact hg1 j (by omega)
theorem q_poS1 {mo u0 : Nat} {pn rw1 w : Nat → Int32} {ow : Int32} (c : u0 < mo) (h : (∀ i, i < 7 → w (u0 * 8 + i) = pn i) ∧ w (u0 * 8 + 7) = ow ∧ ∀ j, j < u0 * 8 → w j = rw1 j) :
    (∀ i, i < 7 → w (q_pb mo u0 * 8 + i) = pn i) ∧ w (q_pb mo u0 * 8 + 7) = ow ∧ ∀ j, j < q_pb mo u0 * 8 → w j = if u0 < mo then rw1 j else rw1 (j + 8) := by
  rw [show q_pb mo u0 = u0 from by rw [q_pb, if_pos c]]
  exact ⟨h.1, h.2.1, fun j hj => by rw [if_pos c]; exact h.2.2 j hj⟩
theorem q_poS2 {mo u0 RL q : Nat} {pn rw1 w g : Nat → Int32} {ow : Int32} (c : ¬ u0 < mo) (hRL : RL = mo * 8) (hq : RL ≤ q) (hg : ∀ j, j + 8 < q → g j = rw1 (j + 8)) (h : (∀ i, i < 7 → w ((mo - 1) * 8 + i) = pn i) ∧ w ((mo - 1) * 8 + 7) = ow ∧ ∀ j, j < (mo - 1) * 8 → w j = g j) :
    (∀ i, i < 7 → w (q_pb mo u0 * 8 + i) = pn i) ∧ w (q_pb mo u0 * 8 + 7) = ow ∧ ∀ j, j < q_pb mo u0 * 8 → w j = if u0 < mo then rw1 j else rw1 (j + 8) := by
  rw [show q_pb mo u0 = mo - 1 from by rw [q_pb, if_neg c]]
  exact ⟨h.1, h.2.1, fun j hj => by rw [if_neg c, h.2.2 j hj]; exact hg j (by omega)⟩
theorem q_puS {u0 k : Nat} {g pn : Nat → Int32} (h : ∀ i, i < k → g (u0 * 8 + i) = pn i) : ∀ i, i < k + 1 → upd g (u0 * 8 + k) (pn k) (u0 * 8 + i) = pn i := by
  intro i hi
  unfold upd
  by_cases e : i = k
  · rw [e, if_pos rfl]
  · rw [if_neg (by omega)]; exact h i (by omega)
