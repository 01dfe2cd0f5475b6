theorem q_inEit (w : Int32) : bI (q_inb w.toInt64 (0 : Int64) (1 : Int64)) = bI (q_eit w) := by
  rcases q_eitC w with h | h | h
  · rw [h]; decide
  · rw [h]; decide
  · rw [h]; exact q_ine h
theorem q_rrT {F : Nat → Nat} {N ow x j r : Nat} (hf : ∀ x, x < N → F x < N) (hN : N ≤ 128) (how : ow < N) (hx9 : x = q_it F r ow) (hj : j + r = 128) (hno : ∀ k, k < r → ¬ F (q_it F k ow) = q_it F k ow) (c : F x = x) : q_rr F j r x = nI r := by
  cases j with
  | zero =>
    have hr : r = 128 := by omega
    subst hr
    rw [hx9] at c
    obtain ⟨k, hk, hk2⟩ := q_nofix hf hN how c
    exact absurd hk2 (hno k hk)
  | succ j => rw [q_rr, if_pos c]
theorem q_fx {F : Nat → Nat} {ow x r : Nat} (hx9 : x = q_it F r ow) (hr : r ≤ 128) (c : F x = x) : q_it F 128 ow = x := by
  rw [show 128 = (128 - r) + r from by omega, q_it_add, ← hx9, q_it_fix c]
theorem q_jj {F : Nat → Nat} {N ow x y cn jj : Nat} (hf : ∀ x, x < N → F x < N) (hN : N ≤ 128) (how : ow < N) (hxx : q_it F 128 ow = x) (hy : y = q_it F cn x) (hjc : jj + cn = 128 ∧ 1 ≤ cn) (hno2 : ∀ k, 1 ≤ k → k < cn → ¬ q_it F k x = x) (hne : ¬ y = x) : 0 < jj := by
  rcases Nat.eq_zero_or_pos jj with e | e
  · obtain ⟨p, p1, p2, p3⟩ := q_per hf hN how
    rw [hxx] at p3
    by_cases e2 : p = cn
    · rw [e2, ← hy] at p3; exact absurd p3 hne
    · exact absurd p3 (hno2 p p1 (by omega))
  · exact e
theorem A_restsK {T : Nat → Nat → Nat} {n : Nat} {se w : Int32} {k : Nat} (h : w = nI k) (hk : k < 2147483648) : A_rests T n se w = q_ra (q_rs T n se) k (2 ^ n) 0 0 := by
  simp only [A_rests, h, q_ixI hk hk]
theorem A_restsM {T : Nat → Nat → Nat} {n : Nat} {se w : Int32} (h : w = (-1 : Int32)) : A_rests T n se w = nI (q_cr (q_rs T n se) (2 ^ n)) := by
  have h2 : q_ix 2147483648 w = none := by rw [h]; exact q_ix_lt (by decide)
  simp only [A_rests, h2]; rw [if_pos h]
theorem A_restsB {T : Nat → Nat → Nat} {n : Nat} {se w : Int32} (h : ¬ (-1 : Int32) ≤ w) : A_rests T n se w = (-1 : Int32) := by
  have h2 : q_ix 2147483648 w = none := q_ix_lt (Int32.lt_of_lt_of_le (Int32.not_le.mp h) (by decide))
  simp only [A_rests, h2]; rw [if_neg (fun z => h (by rw [z]; exact Int32.le_refl _))]
theorem q_PmF1 {T : Nat → Nat → Nat} {n : Nat} {se : Int32} {t : Bool} {ow g p k : Nat} (hk : k = 128) (h : ¬ q_it (q_rd T n se t) k (ow ^^^ p) = g) : q_Pm T n se t ow g p = false := by
  subst hk; unfold q_Pm; rw [decide_eq_false h]; rfl
theorem q_PmF2 {T : Nat → Nat → Nat} {n : Nat} {se : Int32} {t : Bool} {ow g p : Nat} (h : ¬ q_rd T n se t g = g) : q_Pm T n se t ow g p = false := by
  unfold q_Pm; rw [q_rsF h, Bool.and_false]
theorem q_PmT {T : Nat → Nat → Nat} {n : Nat} {se : Int32} {t : Bool} {ow g p k : Nat} (hk : k = 128) (h : q_it (q_rd T n se t) k (ow ^^^ p) = g) (h2 : q_rd T n se t g = g) : q_Pm T n se t ow g p = true := by
  subst hk; unfold q_Pm; rw [decide_eq_true h, q_rd_rs h2]; rfl
theorem A_tipN {T : Nat → Nat → Nat} {n : Nat} {se : Int32} {ow : Nat} {w : Int32} {t : Bool} {v : Int32} {g : Nat} (hw : q_ix (2 ^ n) w = some g) (h : q_tpo T n se t ow g = none) (hv : q_eit v = true) : A_tip T n se ow w t v = (-4 : Int32) := by
  simp only [A_tip, hw, h]
  rcases of_decide_eq_true hv with z | z
  · rw [if_pos (show v = nI 0 from z)]; rfl
  · rw [if_neg (by rw [z]; decide), if_pos (show v = nI 1 from z)]; rfl
theorem A_tip0 {T : Nat → Nat → Nat} {n : Nat} {se : Int32} {ow : Nat} {w : Int32} {t : Bool} {v : Int32} {g b : Nat} (hw : q_ix (2 ^ n) w = some g) (h : q_tpo T n se t ow g = some b) (hv : q_eit v = true) (h1 : ¬ v = nI 1) : A_tip T n se ow w t v = nI (pop8 b) := by
  simp only [A_tip, hw, h]
  rcases of_decide_eq_true hv with z | z
  · rw [if_pos (show v = nI 0 from z)]; rfl
  · exact absurd z h1
theorem A_tip1 {T : Nat → Nat → Nat} {n : Nat} {se : Int32} {ow : Nat} {w : Int32} {t : Bool} {v : Int32} {g b : Nat} (hw : q_ix (2 ^ n) w = some g) (h : q_tpo T n se t ow g = some b) (h1 : v = nI 1) : A_tip T n se ow w t v = nI b := by
  simp only [A_tip, hw, h]
  rw [if_neg (by rw [h1]; decide), if_pos h1]; rfl
theorem A_tipX {T : Nat → Nat → Nat} {n : Nat} {se : Int32} {ow : Nat} {w : Int32} {t : Bool} {v : Int32} {g : Nat} (hw : q_ix (2 ^ n) w = some g) (hv : q_eit v = false) : A_tip T n se ow w t v = (-1 : Int32) := by
  simp only [A_tip, hw]; rw [if_neg (q_eitN hv).1, if_neg (q_eitN hv).2]
theorem q_bbF' {g : Nat → Int32} {k k1 : Nat} (hk : k = k1 + 1) (h : g k ≤ (q_ba g k1).2) : q_bb g (k + 1) = (nI (q_ba g k1).1, (q_ba g k1).2) := by subst hk; exact q_bbF (Int32.not_lt.mpr h)
theorem q_bbT' {g : Nat → Int32} {k k1 : Nat} (hk : k = k1 + 1) (h : ¬ g k ≤ (q_ba g k1).2) : q_bb g (k + 1) = (nI k, g k) := by subst hk; exact q_bbT (Int32.not_le.mp h)
theorem q_bbZ {g : Nat → Int32} {k : Nat} (hz : k = 0) : q_bb g (k + 1) = (nI k, g k) := by subst hz; rfl
theorem q_bbE {g : Nat → Int32} {k m : Nat} (hk : k = m + 1) : q_bb g k = (nI (q_ba g m).1, (q_ba g m).2) := by subst hk; rfl
theorem q_bnU {T : Nat → Nat → Nat} {n : Nat} {se : Int32} {i ow b : Nat} (hno : ow.testBit i = false) (h1 : q_nd b ow = 0) (h2 : q_wB T n se i (q_nd ow b) = true) : q_bn T n se i ow b = true := q_bnT h1 (by rw [← q_wBn (q_nd_bit hno)]; exact h2)
theorem q_bnV {T : Nat → Nat → Nat} {n : Nat} {se : Int32} {i ow b : Nat} (hno : ow.testBit i = false) (h2 : q_wB T n se i (q_nd ow b) = false) : q_bn T n se i ow b = false := q_bnF (by rw [← q_wBn (q_nd_bit hno)]; exact h2)
theorem q_ft1 {T : Nat → Nat → Nat} {i v : Nat} {SP SO : Nat → Nat} {SB : Nat → Bool} {k : Nat} (h : q_ft T i v SP SO SB k = false) : q_ft T i v SP SO SB (k + 1) = false := by rw [q_ft, h]; rfl
theorem q_ft2 {T : Nat → Nat → Nat} {i v : Nat} {SP SO : Nat → Nat} {SB : Nat → Bool} {k : Nat} (h : q_f1 T i v SP SO SB k = false) : q_ft T i v SP SO SB (k + 1) = false := by rw [q_ft, h, Bool.and_false]
/-- who WOULD, who would be RID, as bits -/
def q_ws (T : Nat → Nat → Nat) (n : Nat) (se : Int32) (ow : Nat) (w : Int32) : Nat → Nat
  | 0 => 0
  | i + 1 => if (if w = nI 0 then q_wB T n se i ow else q_wT T n se i ow) = true then q_ws T n se ow w i ||| 2 ^ i else q_ws T n se ow w i
theorem q_wsT0 {T : Nat → Nat → Nat} {n : Nat} {se : Int32} {ow i : Nat} {w : Int32} (h : w = nI 0) (c : q_wB T n se i ow = true) : q_ws T n se ow w (i + 1) = q_ws T n se ow w i ||| 2 ^ i := by rw [q_ws, if_pos h, if_pos c]
theorem q_wsF0 {T : Nat → Nat → Nat} {n : Nat} {se : Int32} {ow i : Nat} {w : Int32} (h : w = nI 0) (c : q_wB T n se i ow = false) : q_ws T n se ow w (i + 1) = q_ws T n se ow w i := by rw [q_ws, if_pos h, if_neg (by rw [c]; decide)]
theorem q_wsT1 {T : Nat → Nat → Nat} {n : Nat} {se : Int32} {ow i : Nat} {w : Int32} (h : ¬ w = nI 0) (c : q_wT T n se i ow = true) : q_ws T n se ow w (i + 1) = q_ws T n se ow w i ||| 2 ^ i := by rw [q_ws, if_neg h, if_pos c]
theorem q_wsF1 {T : Nat → Nat → Nat} {n : Nat} {se : Int32} {ow i : Nat} {w : Int32} (h : ¬ w = nI 0) (c : q_wT T n se i ow = false) : q_ws T n se ow w (i + 1) = q_ws T n se ow w i := by rw [q_ws, if_neg h, if_neg (by rw [c]; decide)]
theorem q_cs_bit {T : Nat → Nat → Nat} {n : Nat} {se : Int32} {S j : Nat} : ∀ {i : Nat}, (q_cs T n se S i).testBit j = (decide (j < i) && q_chg T n se j S)
  | 0 => by simp [q_cs]
  | i + 1 => by
    have ih := q_cs_bit (T := T) (n := n) (se := se) (S := S) (j := j) (i := i)
    rw [q_cs]
    cases hc : q_chg T n se i S with
    | true =>
      rw [if_pos rfl, Nat.testBit_or, ih, Nat.testBit_two_pow]
      by_cases e : j = i
      · subst e; simp [hc]
      · rw [decide_eq_false (show ¬ i = j from fun z => e z.symm), Bool.or_false]
        congr 1
        by_cases h : j < i
        · rw [decide_eq_true h, decide_eq_true (show j < i + 1 by omega)]
        · rw [decide_eq_false h, decide_eq_false (show ¬ j < i + 1 by omega)]
    | false =>
      rw [if_neg (by decide), ih]
      by_cases e : j = i
      · subst e; simp [hc]
      · congr 1
        by_cases h : j < i
        · rw [decide_eq_true h, decide_eq_true (show j < i + 1 by omega)]
        · rw [decide_eq_false h, decide_eq_false (show ¬ j < i + 1 by omega)]
theorem q_ws_bit {T : Nat → Nat → Nat} {n : Nat} {se : Int32} {ow j : Nat} {w : Int32} : ∀ {i : Nat}, (q_ws T n se ow w i).testBit j = (decide (j < i) && (if w = nI 0 then q_wB T n se j ow else q_wT T n se j ow))
  | 0 => by simp [q_ws]
  | i + 1 => by
    have ih := q_ws_bit (T := T) (n := n) (se := se) (ow := ow) (j := j) (w := w) (i := i)
    rw [q_ws]
    cases hc : (if w = nI 0 then q_wB T n se i ow else q_wT T n se i ow) with
    | true =>
      rw [if_pos rfl, Nat.testBit_or, ih, Nat.testBit_two_pow]
      by_cases e : j = i
      · subst e; rw [hc]; simp
      · rw [decide_eq_false (show ¬ i = j from fun z => e z.symm), Bool.or_false]
        congr 1
        by_cases h : j < i
        · rw [decide_eq_true h, decide_eq_true (show j < i + 1 by omega)]
        · rw [decide_eq_false h, decide_eq_false (show ¬ j < i + 1 by omega)]
    | false =>
      rw [if_neg (by decide), ih]
      by_cases e : j = i
      · subst e; rw [hc]; simp
      · congr 1
        by_cases h : j < i
        · rw [decide_eq_true h, decide_eq_true (show j < i + 1 by omega)]
        · rw [decide_eq_false h, decide_eq_false (show ¬ j < i + 1 by omega)]
theorem q_127 {j : Nat} : (127 : Nat).testBit j = decide (j < 7) := by
  rw [show (127 : Nat) = 2 ^ 7 - 1 from rfl, Nat.testBit_two_pow_sub_one]
theorem q_wsE {T : Nat → Nat → Nat} {n : Nat} {se : Int32} {ow : Nat} {w : Int32} (hv : q_eit w = true) (ho : ow < 128) (hn : n ≤ 7) : nI (q_ws T n se ow w n) = A_would T n se ow w := by
  rw [A_would]
  rcases of_decide_eq_true hv with z | z
  · have z' : w = nI 0 := z
    rw [if_pos z']
    refine congrArg nI (Nat.eq_of_testBit_eq fun j => ?_)
    unfold q_w0 q_nd
    rw [q_ws_bit, Nat.testBit_and, q_cs_bit, Nat.testBit_xor, q_127, if_pos z']
    unfold q_wB q_chg
    by_cases h : j < n
    · rw [decide_eq_true h, decide_eq_true (show j < 7 by omega)]
      cases ow.testBit j <;> simp
    · rw [decide_eq_false h]; simp
  · have z' : w = nI 1 := z
    have z0 : ¬ w = nI 0 := by rw [z']; decide
    rw [if_neg z0, if_pos z']
    refine congrArg nI (Nat.eq_of_testBit_eq fun j => ?_)
    unfold q_w1
    rw [q_ws_bit, Nat.testBit_and, q_cs_bit, if_neg z0]
    unfold q_wT q_chg
    by_cases h : j < n
    · rw [decide_eq_true h]
      cases ow.testBit j <;> simp
    · rw [decide_eq_false h]; simp
theorem q_inD {d : Nat} (h : d ≤ 100) : bI (q_inb (nI d).toInt64 (1 : Int64) (100 : Int64)) = bI (decide (1 ≤ d)) := by
  by_cases c : 1 ≤ d
  · rw [decide_eq_true c]; exact q_in1 (lo := 1) (hi := 100) rfl rfl c h (by decide)
  · rw [decide_eq_false c]; exact q_in2 (lo := 1) (hi := 100) rfl rfl (by omega) (by decide)
