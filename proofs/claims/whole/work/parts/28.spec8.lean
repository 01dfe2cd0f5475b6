/-! the reference's piles and pieces of text -/
theorem q_rmS {i : Nat} {g mB : Nat → Int32} (h1 : ∀ j, j < i → g j = mB (j + 8)) (h : g (i + 8) = mB (i + 8)) : ∀ j, j < i + 1 → upd g i (g (i + 8)) j = mB (j + 8) := by
  intro j hj
  unfold upd
  by_cases e : j = i
  · rw [if_pos e, h, e]
  · rw [if_neg e]; exact h1 j (by omega)
theorem q_inDc {d hi : Nat} {c : Int64} (hc : c = lN hi) (h : d ≤ hi) (h3 : hi < 2147483648) : bI (q_inb (nI d).toInt64 (1 : Int64) c) = bI (decide (1 ≤ d)) := by
  by_cases k : 1 ≤ d
  · rw [decide_eq_true k]; exact q_in1 (lo := 1) (hi := hi) rfl hc k h h3
  · rw [decide_eq_false k]; exact q_in2 (lo := 1) (hi := hi) rfl hc (by omega) (by decide)
theorem q_num0 {tn : Nat} {tf : Nat → Nat} {p : Nat} (h : q_dg tn tf p = none) : q_num tn tf p = (none, p) := by simp only [q_num, h]
theorem q_num1 {tn : Nat} {tf : Nat → Nat} {p a : Nat} (h : q_dg tn tf p = some a) (h2 : q_dg tn tf (p + 1) = none) : q_num tn tf p = (some a, p + 1) := by simp only [q_num, h, h2]
theorem q_num2 {tn : Nat} {tf : Nat → Nat} {p a b : Nat} (h : q_dg tn tf p = some a) (h2 : q_dg tn tf (p + 1) = some b) : q_num tn tf p = (some (10 * a + b), (p + 1) + 1) := by simp only [q_num, h, h2]
theorem q_mo_le (k : Nat) : q_mo k ≤ 99 := by unfold q_mo; split <;> first | omega | (split <;> first | omega | (split <;> omega))
theorem q_tpF {tn : Nat} {tf : Nat → Nat} {mm p0 k pq en : Nat} {pre : List Nat} (hk : k < 5) (hpre : pre.length = k) (hSS : (q_ns tn tf 5 p0).isSome = (q_ns tn tf (5 - k) pq).isSome ∧ ∀ x, q_ns tn tf (5 - k) pq = some x → q_ns tn tf 5 p0 = some (pre ++ x.1, x.2))
    (hen : en = if 5 - (k + 1) = 0 then 59 else 44) (hmn : q_mn tn tf (nI (q_mo k)) en pq = none) : q_tp5 tn tf mm p0 = none := by
  have hc : 5 - k = (5 - (k + 1)) + 1 := by omega
  have hN : q_ns tn tf (5 - k) pq = none → q_tp5 tn tf mm p0 = none := fun z => q_tp5N (q_isN (by rw [hSS.1, z]; rfl))
  cases hn : (q_num tn tf pq).1 with
  | none => exact hN (by rw [hc]; exact q_ns_n1 hn)
  | some v =>
    by_cases hb : q_mo k < v
    · exact q_big hk hpre hSS hn hb
    · have hv := q_num_le hn
      have hm9 := q_mo_le k
      have h3 := q_mn_none hmn hn ((nI_leI (by omega) (by omega)).mpr (by omega))
      exact hN (by rw [hc]; exact q_ns_n2 hn (by rw [← hen]; exact h3))
theorem q_tpS {tn : Nat} {tf : Nat → Nat} {p0 k pq en v : Nat} {mo : Int32} {pre : List Nat} (hk : k < 5) (hSS : (q_ns tn tf 5 p0).isSome = (q_ns tn tf (5 - k) pq).isSome ∧ ∀ x, q_ns tn tf (5 - k) pq = some x → q_ns tn tf 5 p0 = some (pre ++ x.1, x.2))
    (hen : en = if 5 - (k + 1) = 0 then 59 else 44) (hmn : q_mn tn tf mo en pq = some v) :
    (q_ns tn tf 5 p0).isSome = (q_ns tn tf (5 - (k + 1)) ((q_num tn tf pq).2 + 1)).isSome ∧ ∀ x, q_ns tn tf (5 - (k + 1)) ((q_num tn tf pq).2 + 1) = some x → q_ns tn tf 5 p0 = some ((pre ++ [v]) ++ x.1, x.2) := by
  have h := q_mn_some hmn
  rw [show 5 - k = (5 - (k + 1)) + 1 from by omega, q_ns_s h.1 (by rw [← hen]; exact h.2.2)] at hSS
  exact q_nsS hSS
theorem q_preM {pre : List Nat} {mm k v : Nat} {g : Nat → Int32} (h : pre.length = k ∧ ∀ i, i < k → g (5 * mm + i) = nI (pre.getD i 0)) : (pre ++ [v]).length = k + 1 ∧ ∀ i, i < k + 1 → upd g (5 * mm + k) (nI v) (5 * mm + i) = nI ((pre ++ [v]).getD i 0) := by
  refine ⟨by rw [List.length_append, h.1]; rfl, fun i hi => ?_⟩
  unfold upd
  by_cases e : i = k
  · subst e
    rw [if_pos rfl, List.getD_eq_getElem?_getD, List.getElem?_append_right (by omega), h.1]
    simp
  · rw [if_neg (by omega), h.2 i (by omega), List.getD_eq_getElem?_getD, List.getD_eq_getElem?_getD, List.getElem?_append_left (by omega)]
theorem q_preR {pre : List Nat} {k v : Nat} (hl : pre.length = k) (h : ∀ i, i < k → pre.getD i 0 ≤ q_mo i) (hv : v ≤ q_mo k) : ∀ i, i < k + 1 → (pre ++ [v]).getD i 0 ≤ q_mo i := by
  intro i hi
  by_cases e : i = k
  · subst e
    rw [List.getD_eq_getElem?_getD, List.getElem?_append_right (by omega), hl]
    simpa using hv
  · have := h i (by omega)
    rw [List.getD_eq_getElem?_getD] at this
    rw [List.getD_eq_getElem?_getD, List.getElem?_append_left (by omega)]
    exact this
theorem q_RdUp {R : Nat → Nat → Nat} {mm : Nat} {mR g : Nat → Int32} {l : List Nat} (h : q_Rd R mm mR) (h0 : ∀ j, j < 5 * mm → g j = mR j) (hp : ∀ i, i < 5 → g (5 * mm + i) = nI (l.getD i 0)) :
    q_Rd (q_upT R mm (l.getD 0 0) (l.getD 1 0) (l.getD 2 0) (l.getD 3 0) (l.getD 4 0)) (mm + 1) g := by
  intro i hi k hk
  unfold q_upT
  by_cases e : i = mm
  · subst e
    rw [if_pos rfl, hp k hk]
    rcases (by omega : k = 0 ∨ k = 1 ∨ k = 2 ∨ k = 3 ∨ k = 4) with rfl | rfl | rfl | rfl | rfl <;> rfl
  · rw [if_neg e, h0 _ (by omega)]
    exact h i (by omega) k hk
theorem q_adT {mm : Nat} {l : List Nat} (hm : mm < 7) (h : ∀ i, i < 5 → l.getD i 0 ≤ q_mo i) : q_adOk mm (l.getD 0 0) (l.getD 2 0) (l.getD 3 0) = true := by
  have h0 : l.getD 0 0 ≤ 3 := h 0 (by decide)
  have h2 : l.getD 2 0 ≤ 18 := h 2 (by decide)
  have h3 : l.getD 3 0 ≤ 7 := h 3 (by decide)
  exact decide_eq_true (by omega)
theorem q_itPm {tn : Nat} {tf : Nat → Nat} {mm : Nat} {R : Nat → Nat → Nat} {fo se p : Nat} {X : Nat × (Nat → Nat → Nat) × Nat × Nat × Nat → Prop} (ht : tf p = 112)
    (h : ∀ x, q_tp5 tn tf mm (p + 1) = some x → X (mm + 1, q_upT R mm (x.1.getD 0 0) (x.1.getD 1 0) (x.1.getD 2 0) (x.1.getD 3 0) (x.1.getD 4 0), fo, se, x.2)) :
    bI (q_tp5 tn tf mm (p + 1)).isSome = bI (q_item tn tf mm R fo se p).isSome ∧ ∀ y, q_item tn tf mm R fo se p = some y → X y := by
  have e := q_itP4 (tn := tn) (m := mm) (R := R) (fo := fo) (se := se) ht
  cases hq : q_tp5 tn tf mm (p + 1) with
  | none => rw [hq] at e; rw [e]; exact ⟨rfl, fun y hy => by cases hy⟩
  | some x => rw [hq] at e; rw [e]; exact ⟨rfl, fun y hy => by cases hy; exact h x hq⟩
theorem q_prA (mm : Nat) : nI mm - nI 1 = q_pr mm := by
  cases mm with
  | zero => decide
  | succ j => exact q_sub (by omega)
theorem q_pr_le {v mm : Nat} (hv : v < 2147483648) (hm : mm < 2147483648) : nI v ≤ q_pr mm ↔ v < mm := by
  cases mm with
  | zero =>
    refine ⟨fun h => ?_, fun h => absurd h (Nat.not_lt_zero _)⟩
    rw [Int32.le_iff_toInt_le, nI_toInt hv, show (q_pr 0).toInt = -1 from by decide] at h; omega
  | succ j => show nI v ≤ nI j ↔ _; rw [nI_leI hv (by omega)]; omega
theorem q_ns1S {tn : Nat} {tf : Nat → Nat} {p v : Nat} {mo : Int32} (h : q_mn tn tf mo 59 p = some v) : q_ns tn tf 1 p = some ([v], (q_num tn tf p).2 + 1) := by
  have h1 := q_mn_some h
  rw [q_ns_s (c := 0) h1.1 (by rw [if_pos rfl]; exact h1.2.2), q_ns]
theorem q_ns1N {tn : Nat} {tf : Nat → Nat} {p : Nat} {mo : Int32} (h : q_mn tn tf mo 59 p = none) {x : List Nat × Nat} (hx : q_ns tn tf 1 p = some x) : ¬ nI (x.1.getD 0 0) ≤ mo := by
  intro hb
  cases hn : (q_num tn tf p).1 with
  | none => rw [q_ns_n1 hn] at hx; cases hx
  | some v =>
    by_cases hc : (q_num tn tf p).2 < tn ∧ tf (q_num tn tf p).2 = (if 0 = 0 then 59 else 44)
    · have hc2 := hc
      rw [if_pos rfl] at hc2
      rw [q_ns_s hn hc, q_ns] at hx
      cases hx
      exact q_mn_none h hn hb hc2
    · rw [q_ns_n2 hn hc] at hx; cases hx
theorem q_itON {tn : Nat} {tf : Nat → Nat} {mm : Nat} {R : Nat → Nat → Nat} {fo se p : Nat} (ht : tf p = 111) (hm : mm ≤ 7) (h : q_mn tn tf (q_pr mm) 59 (p + 1) = none) : q_item tn tf mm R fo se p = none := by
  cases hn : q_ns tn tf 1 (p + 1) with
  | none => exact q_itO1 ht hn
  | some x =>
    have := q_ns_le hn 0
    exact q_itO3 ht hn (fun z => q_ns1N h hn ((q_pr_le (by omega) (by omega)).mpr z))
theorem q_itOS {tn : Nat} {tf : Nat → Nat} {mm : Nat} {R : Nat → Nat → Nat} {fo se p v : Nat} (ht : tf p = 111) (h : q_mn tn tf (q_pr mm) 59 (p + 1) = some v) (hv : v < mm) : q_item tn tf mm R fo se p = some (mm, R, fo ||| 2 ^ v, se, (q_num tn tf (p + 1)).2 + 1) := by
  have h2 := q_ns1S h
  exact q_itO2 ht h2 hv
theorem q_itSN {tn : Nat} {tf : Nat → Nat} {mm : Nat} {R : Nat → Nat → Nat} {fo se p : Nat} (ht : tf p = 115) (h : q_mn tn tf (nI 99) 59 (p + 1) = none) : q_item tn tf mm R fo se p = none := by
  cases hn : q_ns tn tf 1 (p + 1) with
  | none => exact q_itS1 ht hn
  | some x =>
    have := q_ns_le hn 0
    exact absurd ((nI_leI (by omega) (by omega)).mpr this) (q_ns1N h hn)
theorem q_itSS {tn : Nat} {tf : Nat → Nat} {mm : Nat} {R : Nat → Nat → Nat} {fo se p v : Nat} (ht : tf p = 115) (h : q_mn tn tf (nI 99) 59 (p + 1) = some v) : q_item tn tf mm R fo se p = some (mm, R, fo, v, (q_num tn tf (p + 1)).2 + 1) := q_itS2 ht (q_ns1S h)
theorem q_mnLt {tn : Nat} {tf : Nat → Nat} {mm en p v : Nat} (h : q_mn tn tf (q_pr mm) en p = some v) (hm : mm ≤ 7) : v < mm := by
  have h1 := q_mn_some h
  have h2 := q_num_le h1.1
  exact (q_pr_le (by omega) (by omega)).mp h1.2.1
theorem q_mnMo {tn : Nat} {tf : Nat → Nat} {k en p v : Nat} (h : q_mn tn tf (nI (q_mo k)) en p = some v) : v ≤ q_mo k := by
  have h1 := q_mn_some h
  have h2 := q_num_le h1.1
  have h3 := q_mo_le k
  exact (nI_leI (by omega) (by omega)).mp h1.2.1
