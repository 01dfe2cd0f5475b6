/-! items, and what was seen -/
theorem q_eN {α : Type} {o : Option α} {X : α → Prop} (h : o = none) : nI 0 = bI o.isSome ∧ ∀ y, o = some y → X y := by subst h; exact ⟨rfl, fun y hy => by cases hy⟩
theorem q_eS {α : Type} {o : Option α} {X : α → Prop} {z : α} (h : o = some z) (hz : X z) : nI 1 = bI o.isSome ∧ ∀ y, o = some y → X y := by subst h; exact ⟨rfl, fun y hy => by cases hy; exact hz⟩
theorem q_itP1 {tn : Nat} {tf : Nat → Nat} {m : Nat} {R : Nat → Nat → Nat} {fo se p : Nat} (ht : tf p = 112) (h : q_ns tn tf 5 (p + 1) = none) : q_item tn tf m R fo se p = none := by
  rw [q_item, if_pos ht, h]
theorem q_itP2 {tn : Nat} {tf : Nat → Nat} {m : Nat} {R : Nat → Nat → Nat} {fo se p : Nat} {x : List Nat × Nat} (ht : tf p = 112) (h : q_ns tn tf 5 (p + 1) = some x) (ho : q_adOk m (x.1.getD 0 0) (x.1.getD 2 0) (x.1.getD 3 0) = true) :
    q_item tn tf m R fo se p = some (m + 1, q_upT R m (x.1.getD 0 0) (x.1.getD 1 0) (x.1.getD 2 0) (x.1.getD 3 0) (x.1.getD 4 0), fo, se, x.2) := by
  rw [q_item, if_pos ht, h]; exact if_pos ho
theorem q_itP3 {tn : Nat} {tf : Nat → Nat} {m : Nat} {R : Nat → Nat → Nat} {fo se p : Nat} {x : List Nat × Nat} (ht : tf p = 112) (h : q_ns tn tf 5 (p + 1) = some x) (ho : q_adOk m (x.1.getD 0 0) (x.1.getD 2 0) (x.1.getD 3 0) = false) : q_item tn tf m R fo se p = none := by
  rw [q_item, if_pos ht, h]; exact if_neg (by rw [ho]; decide)
theorem q_itO1 {tn : Nat} {tf : Nat → Nat} {m : Nat} {R : Nat → Nat → Nat} {fo se p : Nat} (ht : tf p = 111) (h : q_ns tn tf 1 (p + 1) = none) : q_item tn tf m R fo se p = none := by
  rw [q_item, if_neg (by omega), if_pos ht, h]
theorem q_itO2 {tn : Nat} {tf : Nat → Nat} {m : Nat} {R : Nat → Nat → Nat} {fo se p : Nat} {x : List Nat × Nat} (ht : tf p = 111) (h : q_ns tn tf 1 (p + 1) = some x) (ho : x.1.getD 0 0 < m) : q_item tn tf m R fo se p = some (m, R, fo ||| 2 ^ (x.1.getD 0 0), se, x.2) := by
  rw [q_item, if_neg (by omega), if_pos ht, h]; exact if_pos ho
theorem q_itO3 {tn : Nat} {tf : Nat → Nat} {m : Nat} {R : Nat → Nat → Nat} {fo se p : Nat} {x : List Nat × Nat} (ht : tf p = 111) (h : q_ns tn tf 1 (p + 1) = some x) (ho : ¬ x.1.getD 0 0 < m) : q_item tn tf m R fo se p = none := by
  rw [q_item, if_neg (by omega), if_pos ht, h]; exact if_neg ho
theorem q_itS1 {tn : Nat} {tf : Nat → Nat} {m : Nat} {R : Nat → Nat → Nat} {fo se p : Nat} (ht : tf p = 115) (h : q_ns tn tf 1 (p + 1) = none) : q_item tn tf m R fo se p = none := by
  rw [q_item, if_neg (by omega), if_neg (by omega), if_pos ht, h]
theorem q_itS2 {tn : Nat} {tf : Nat → Nat} {m : Nat} {R : Nat → Nat → Nat} {fo se p : Nat} {x : List Nat × Nat} (ht : tf p = 115) (h : q_ns tn tf 1 (p + 1) = some x) : q_item tn tf m R fo se p = some (m, R, fo, x.1.getD 0 0, x.2) := by
  rw [q_item, if_neg (by omega), if_neg (by omega), if_pos ht, h]
theorem q_itN {tn : Nat} {tf : Nat → Nat} {m : Nat} {R : Nat → Nat → Nat} {fo se p : Nat} (h1 : ¬ tf p = 112) (h2 : ¬ tf p = 111) (h3 : ¬ tf p = 115) : q_item tn tf m R fo se p = none := by
  rw [q_item, if_neg h1, if_neg h2, if_neg h3]
/-- what an item leaves: where it ends, the bounds of what it tells -/
theorem q_item_p {tn : Nat} {tf : Nat → Nat} {m : Nat} {R : Nat → Nat → Nat} {fo se p : Nat} {y : Nat × (Nat → Nat → Nat) × Nat × Nat × Nat} (hm : m ≤ 7) (hB : q_Bd R m) (hfo : fo < 2 ^ m) (h : q_item tn tf m R fo se p = some y) :
    (p < y.2.2.2.2 ∧ y.2.2.2.2 ≤ tn) ∧ y.1 ≤ 7 ∧ q_Bd y.2.1 y.1 ∧ y.2.2.1 < 2 ^ y.1 := by
  by_cases h1 : tf p = 112
  · cases hn : q_ns tn tf 5 (p + 1) with
    | none => rw [q_itP1 h1 hn] at h; cases h
    | some x =>
      cases ho : q_adOk m (x.1.getD 0 0) (x.1.getD 2 0) (x.1.getD 3 0) with
      | false => rw [q_itP3 h1 hn ho] at h; cases h
      | true =>
        rw [q_itP2 h1 hn ho] at h
        cases h
        have hp := q_ns_p hn
        have hl := q_ns_le hn
        have ho2 := of_decide_eq_true ho
        refine ⟨⟨by show p < x.2; omega, hp.2 (by decide)⟩, by show m + 1 ≤ 7; omega, ⟨by show m + 1 ≤ 7; omega, fun i hi => ?_⟩, ?_⟩
        · show q_upT R m _ _ _ _ _ i 0 < 4 ∧ q_upT R m _ _ _ _ _ i 1 < 100 ∧ q_upT R m _ _ _ _ _ i 2 < 19 ∧ q_upT R m _ _ _ _ _ i 3 < 8 ∧ q_upT R m _ _ _ _ _ i 4 < 100
          have hi' : i < m + 1 := hi
          unfold q_upT
          by_cases e : i = m
          · have l1 := hl 1; have l4 := hl 4
            rw [if_pos e, if_pos e, if_pos e, if_pos e, if_pos e]
            show x.1.getD 0 0 < 4 ∧ x.1.getD 1 0 < 100 ∧ x.1.getD 2 0 < 19 ∧ x.1.getD 3 0 < 8 ∧ x.1.getD 4 0 < 100
            omega
          · rw [if_neg e, if_neg e, if_neg e, if_neg e, if_neg e]
            exact hB.2 i (by omega)
        · show fo < 2 ^ (m + 1)
          rw [Nat.pow_succ]; omega
  · by_cases h2 : tf p = 111
    · cases hn : q_ns tn tf 1 (p + 1) with
      | none => rw [q_itO1 h2 hn] at h; cases h
      | some x =>
        by_cases ho : x.1.getD 0 0 < m
        · rw [q_itO2 h2 hn ho] at h
          cases h
          have hp := q_ns_p hn
          exact ⟨⟨by show p < x.2; omega, hp.2 (by decide)⟩, hm, hB, q_or_lt hfo ho⟩
        · rw [q_itO3 h2 hn ho] at h; cases h
    · by_cases h3 : tf p = 115
      · cases hn : q_ns tn tf 1 (p + 1) with
        | none => rw [q_itS1 h3 hn] at h; cases h
        | some x =>
          rw [q_itS2 h3 hn] at h
          cases h
          have hp := q_ns_p hn
          exact ⟨⟨by show p < x.2; omega, hp.2 (by decide)⟩, hm, hB, hfo⟩
      · rw [q_itN h1 h2 h3] at h; cases h
theorem q_fa_B {tn : Nat} {tf : Nat → Nat} : ∀ (f p m : Nat) (R : Nat → Nat → Nat) (fo se : Nat), m ≤ 7 → q_Bd R m → fo < 2 ^ m →
    (q_fa tn tf f p m R fo se).2.1 ≤ 7 ∧ q_Bd (q_fa tn tf f p m R fo se).2.2.1 (q_fa tn tf f p m R fo se).2.1 ∧ (q_fa tn tf f p m R fo se).2.2.2.1 < 2 ^ (q_fa tn tf f p m R fo se).2.1
  | 0, p, m, R, fo, se, hm, hB, hfo => ⟨hm, hB, hfo⟩
  | f + 1, p, m, R, fo, se, hm, hB, hfo => by
    rw [q_fa]
    by_cases hp : p < tn
    · rw [if_pos hp]
      cases hi : q_item tn tf m R fo se p with
      | none => exact ⟨hm, hB, hfo⟩
      | some y =>
        have h1 := q_item_p hm hB hfo hi
        exact q_fa_B f _ _ _ _ _ h1.2.1 h1.2.2.1 h1.2.2.2
    · rw [if_neg hp]; exact ⟨hm, hB, hfo⟩
theorem q_Bd0 : q_Bd (fun _ _ => 0) 0 := ⟨by decide, fun i hi => absurd hi (Nat.not_lt_zero _)⟩
theorem q_fl_B (tn : Nat) (tf : Nat → Nat) : (q_fl tn tf).2.1 ≤ 7 ∧ q_Bd (q_fl tn tf).2.2.1 (q_fl tn tf).2.1 ∧ (q_fl tn tf).2.2.2.1 < 2 ^ (q_fl tn tf).2.1 := q_fa_B 300 0 0 _ 0 50 (by decide) q_Bd0 (by decide)
theorem q_fa_0 {tn : Nat} {tf : Nat → Nat} {f p m : Nat} {R : Nat → Nat → Nat} {fo se : Nat} (h : f = 0 ∨ ¬ p < tn) : q_fa tn tf f p m R fo se = (none, m, R, fo, se) := by
  cases f with
  | zero => rfl
  | succ f => rw [q_fa, if_neg (h.elim (fun z => by cases z) id)]
theorem q_fa_N {tn : Nat} {tf : Nat → Nat} {f p m : Nat} {R : Nat → Nat → Nat} {fo se : Nat} (hp : p < tn) (h : q_item tn tf m R fo se p = none) : q_fa tn tf (f + 1) p m R fo se = (some p, m, R, fo, se) := by
  rw [q_fa, if_pos hp, h]
theorem q_fa_S {tn : Nat} {tf : Nat → Nat} {f p m : Nat} {R : Nat → Nat → Nat} {fo se : Nat} {y : Nat × (Nat → Nat → Nat) × Nat × Nat × Nat} (hp : p < tn) (h : q_item tn tf m R fo se p = some y) : q_fa tn tf (f + 1) p m R fo se = q_fa tn tf f y.2.2.2.2 y.1 y.2.1 y.2.2.1 y.2.2.2.1 := by
  rw [q_fa, if_pos hp, h]
def q_Sg (sc : Nat) (SP SO : Nat → Nat) (SB : Nat → Bool) (sP sO sB : Nat → Int32) : Prop := sc ≤ 8 ∧ ∀ k, k < sc → SP k < 7 ∧ SO k ≤ 7 ∧ sP k = nI (SP k) ∧ sO k = nI (SO k) ∧ sB k = bI (SB k)
theorem q_narZ (b : Bool) : vp_nar .boolean (bI b) = bI b := by cases b <;> decide
theorem q_b0 {b : Bool} (h : nI 0 = bI b) : b = false := by cases b with | false => rfl | true => exact absurd h (by decide)
theorem q_b1' {b : Bool} (h : nI 1 = bI b) : b = true := by cases b with | true => rfl | false => exact absurd h (by decide)
theorem q_b0n {b : Bool} (h : ¬ nI 0 = bI b) : b = true := by cases b with | true => rfl | false => exact absurd (by decide) h
theorem q_b1n {b : Bool} (h : ¬ nI 1 = bI b) : b = false := by cases b with | false => rfl | true => exact absurd (by decide) h
theorem q_f1a {T : Nat → Nat → Nat} {i v : Nat} {SP SO : Nat → Nat} {SB : Nat → Bool} {k : Nat} (h : ¬ SP k = i) : q_f1 T i v SP SO SB k = true := by rw [q_f1, decide_eq_false h]; rfl
theorem q_f1b {T : Nat → Nat → Nat} {i v : Nat} {SP SO : Nat → Nat} {SB : Nat → Bool} {k : Nat} {d : Bool} (hd : decide (nI (SO k) < q_wby (T i 0) (nI v) (T i 2) (SO k)) = d) (hs : SB k = d) : q_f1 T i v SP SO SB k = true := by rw [q_f1, hd, hs]; simp
theorem q_f1c {T : Nat → Nat → Nat} {i v : Nat} {SP SO : Nat → Nat} {SB : Nat → Bool} {k : Nat} {d : Bool} (h : SP k = i) (hd : decide (nI (SO k) < q_wby (T i 0) (nI v) (T i 2) (SO k)) = d) (hs : SB k = !d) : q_f1 T i v SP SO SB k = false := by
  rw [q_f1, hd, hs, decide_eq_true h]; cases d <;> rfl
theorem q_ftS {T : Nat → Nat → Nat} {i v : Nat} {SP SO : Nat → Nat} {SB : Nat → Bool} {k : Nat} (h1 : q_ft T i v SP SO SB k = true) (h2 : q_f1 T i v SP SO SB k = true) : q_ft T i v SP SO SB (k + 1) = true := by rw [q_ft, h1, h2]; rfl
