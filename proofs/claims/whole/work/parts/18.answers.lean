/-! the answers of the calls, and what they leave, in numbers: the same for both sides -/
def q_ix (N : Nat) (w : Int32) : Option Nat := if w.toInt < 0 then none else if w.toInt.toNat < N then some w.toInt.toNat else none
theorem q_nIof {w : Int32} (h : ¬ w.toInt < 0) : w = nI w.toInt.toNat ∧ w.toInt.toNat < 2147483648 := by
  have h2 := w.toInt_lt
  have h3 : w.toInt.toNat < 2147483648 := by omega
  refine ⟨?_, h3⟩
  rw [← Int32.toInt_inj, nI_toInt (by omega)]
  omega
theorem q_ixS {N : Nat} {w : Int32} {i : Nat} (h : q_ix N w = some i) : w = nI i ∧ i < N := by
  unfold q_ix at h
  by_cases h1 : w.toInt < 0
  · rw [if_pos h1] at h; cases h
  · rw [if_neg h1] at h
    by_cases h2 : w.toInt.toNat < N
    · rw [if_pos h2] at h; cases h; exact ⟨(q_nIof h1).1, h2⟩
    · rw [if_neg h2] at h; cases h
theorem q_ixI {N i : Nat} (hi : i < N) (hN : i < 2147483648) : q_ix N (nI i) = some i := by
  have e := nI_toInt (n := i) (by omega)
  rw [q_ix, e, if_neg (by omega), if_pos (by omega)]
  simp
theorem q_ix_lt {N : Nat} {w : Int32} (h : w < 0) : q_ix N w = none := by
  rw [q_ix, if_pos]
  rw [Int32.lt_iff_toInt_lt] at h
  exact h
theorem q_ix_ge {N : Nat} {w : Int32} (hN : N < 2147483648) (h : nI N ≤ w) : q_ix N w = none := by
  rw [Int32.le_iff_toInt_le, nI_toInt (by omega)] at h
  rw [q_ix, if_neg (by omega), if_neg (by omega)]
theorem q_ix_in {N : Nat} {w : Int32} (hN : N < 2147483648) (h1 : ¬ w < 0) (h2 : ¬ nI N ≤ w) : (q_ix N w).isSome = true := by
  rw [Int32.le_iff_toInt_le, nI_toInt (by omega)] at h2
  rw [Int32.lt_iff_toInt_lt] at h1
  have h1' : ¬ w.toInt < 0 := h1
  rw [q_ix, if_neg h1', if_pos (by omega)]; rfl
theorem q_ixN {N : Nat} {w : Int32} (hN : N < 2147483648) (h : q_ix N w = none) : w < 0 ∨ nI N ≤ w := by
  by_cases h1 : w < 0
  · exact Or.inl h1
  · by_cases h2 : nI N ≤ w
    · exact Or.inr h2
    · have := q_ix_in hN h1 h2; rw [h] at this; cases this
theorem q_eitC (w : Int32) : w = nI 0 ∨ w = nI 1 ∨ q_eit w = false := by
  by_cases h0 : w = 0
  · exact Or.inl h0
  · by_cases h1 : w = 1
    · exact Or.inr (Or.inl h1)
    · exact Or.inr (Or.inr (decide_eq_false (fun z => z.elim h0 h1)))
theorem q_eitN {w : Int32} (h : q_eit w = false) : ¬ w = nI 0 ∧ ¬ w = nI 1 := by
  have := of_decide_eq_false h
  exact ⟨fun z => this (Or.inl z), fun z => this (Or.inr z)⟩
/-- one less, down to -1 -/
def q_pr : Nat → Int32
  | 0 => (-1 : Int32)
  | j + 1 => nI j
theorem q_prS {j : Nat} : nI j + Int32.ofInt (-1) = q_pr j := by
  cases j with
  | zero => decide
  | succ j =>
    show nI (j + 1) + Int32.ofInt (-1) = nI j
    rw [← nI_add, Int32.add_assoc, show nI 1 + Int32.ofInt (-1) = 0 from by decide, Int32.add_zero]
theorem q_prI {j : Nat} (h : 0 < j) : nI j - nI 1 = q_pr j := by
  cases j with
  | zero => exact absurd h (Nat.lt_irrefl 0)
  | succ j => exact q_sub (by omega)
-- piles
def q_pO (mo u : Nat) (O : Nat → Nat) (ow : Nat) : Nat → Nat := fun j => if j = q_pb mo u then ow else if u < mo then O j else O (j + 1)
def q_pQ (mo u : Nat) (Q : Nat → Nat → Nat) (P : Nat → Nat) : Nat → Nat → Nat := fun j => if j = q_pb mo u then P else if u < mo then Q j else Q (j + 1)
/-- a class's pile: u rows of owners and pennies, and their bounds -/
def q_Pi (mo n u : Nat) (O : Nat → Nat) (Q : Nat → Nat → Nat) (rows : Nat → Int32) : Prop := u ≤ mo ∧ ∀ j, j < u → O j < 2 ^ n ∧ rows (j * 8 + 7) = nI (O j) ∧ ∀ i, i < n → rows (j * 8 + i) = nI (Q j i)
theorem q_Pi_push {mo n u ow : Nat} {O : Nat → Nat} {Q : Nat → Nat → Nat} {P : Nat → Nat} {rw1 pn w : Nat → Int32} (hn : n ≤ 7) (hmo : 0 < mo) (h : q_Pi mo n u O Q rw1) (how : ow < 2 ^ n) (hp : ∀ i, i < n → pn i = nI (P i))
    (hw : (∀ i, i < 7 → w (q_pb mo u * 8 + i) = pn i) ∧ w (q_pb mo u * 8 + 7) = nI ow ∧ ∀ j, j < q_pb mo u * 8 → w j = if u < mo then rw1 j else rw1 (j + 8)) : q_Pi mo n (q_pb mo u + 1) (q_pO mo u O ow) (q_pQ mo u Q P) w := by
  have hb : q_pb mo u + 1 ≤ mo ∧ q_pb mo u ≤ u := by unfold q_pb; have := h.1; split <;> omega
  refine ⟨hb.1, fun j hj => ?_⟩
  unfold q_pO q_pQ
  by_cases e : j = q_pb mo u
  · rw [if_pos e, if_pos e, e]
    exact ⟨how, hw.2.1, fun i hi => by rw [hw.1 i (by omega), hp i hi]⟩
  · rw [if_neg e, if_neg e]
    have hj2 : j < q_pb mo u := by omega
    by_cases c : u < mo
    · rw [if_pos c, if_pos c]
      have h2 := h.2 j (by omega)
      exact ⟨h2.1, by rw [hw.2.2 _ (by omega), if_pos c]; exact h2.2.1, fun i hi => by rw [hw.2.2 _ (by omega), if_pos c]; exact h2.2.2 i hi⟩
    · rw [if_neg c, if_neg c]
      have hu : u = mo := by have := h.1; omega
      have hb2 : q_pb mo u = mo - 1 := by unfold q_pb; rw [if_neg c]
      have h2 := h.2 (j + 1) (by omega)
      exact ⟨h2.1, by rw [hw.2.2 _ (by omega), if_neg c, show j * 8 + 7 + 8 = (j + 1) * 8 + 7 from by omega]; exact h2.2.1, fun i hi => by rw [hw.2.2 _ (by omega), if_neg c, show j * 8 + i + 8 = (j + 1) * 8 + i from by omega]; exact h2.2.2 i hi⟩
theorem q_Pi_less {mo n u v : Nat} {O : Nat → Nat} {Q : Nat → Nat → Nat} {rw1 : Nat → Int32} (h : q_Pi mo n u O Q rw1) (hv : v ≤ u) : q_Pi mo n v O Q rw1 := ⟨by have := h.1; omega, fun j hj => h.2 j (by omega)⟩
-- what the calls answer
def A_person (T : Nat → Nat → Nat) (n ow : Nat) (P : Nat → Nat) (w v : Int32) : Int32 := match q_ix n w with
  | none => (-1 : Int32)
  | some i => if v = nI 4 then nI (P i + 1000) else if v = nI 5 then bI (ow.testBit i) else match q_ix 4 v with
    | none => (-1 : Int32)
    | some k => nI (T i k)
def A_worth (T : Nat → Nat → Nat) (n : Nat) (se : Int32) (w v : Int32) : Int32 := match q_ix n w with
  | none => (-1 : Int32)
  | some i => match q_ix (2 ^ n) v with
    | none => (-1 : Int32)
    | some S => q_wor T n se i S + nI 1000
def A_price (T : Nat → Nat → Nat) (n ow : Nat) (w : Int32) : Int32 := match q_ix n w with
  | none => (-1 : Int32)
  | some i => if ow.testBit i then (-2 : Int32) else nI (q_oth T n i ow)
def q_w0 (T : Nat → Nat → Nat) (n : Nat) (se : Int32) (ow : Nat) : Nat := q_nd (q_cs T n se ow n) ow
def q_w1 (T : Nat → Nat → Nat) (n : Nat) (se : Int32) (ow : Nat) : Nat := q_cs T n se ow n &&& ow
def A_would (T : Nat → Nat → Nat) (n : Nat) (se : Int32) (ow : Nat) (w : Int32) : Int32 := if w = nI 0 then nI (q_w0 T n se ow) else if w = nI 1 then nI (q_w1 T n se ow) else (-1 : Int32)
def A_behind (T : Nat → Nat → Nat) (n : Nat) (se : Int32) (ow : Nat) (w : Int32) (t : Bool) : Int32 := match q_ix 61 w with
  | none => (-1 : Int32)
  | some k => nI (q_it (q_rd T n se t) k ow)
def A_rest (T : Nat → Nat → Nat) (n : Nat) (se : Int32) (ow : Nat) (t : Bool) (w : Int32) : Int32 := if w = nI 0 then q_rr (q_rd T n se t) 128 0 ow else if w = nI 1 then nI (q_sg (q_rd T n se t) ow) else (-1 : Int32)
def A_rests (T : Nat → Nat → Nat) (n : Nat) (se : Int32) (w : Int32) : Int32 := match q_ix 2147483648 w with
  | some k => q_ra (q_rs T n se) k (2 ^ n) 0 0
  | none => if w = (-1 : Int32) then nI (q_cr (q_rs T n se) (2 ^ n)) else (-1 : Int32)
def q_tpo (T : Nat → Nat → Nat) (n : Nat) (se : Int32) (t : Bool) (ow goal : Nat) : Option Nat := if q_rs T n se goal then q_min (q_P1 T n se t ow goal) (2 ^ n) else none
def q_on : Option Nat → Int32
  | none => (-4 : Int32)
  | some b => nI (pop8 b)
def A_tip (T : Nat → Nat → Nat) (n : Nat) (se : Int32) (ow : Nat) (w : Int32) (t : Bool) (v : Int32) : Int32 := match q_ix (2 ^ n) w with
  | none => (-1 : Int32)
  | some g => if v = nI 0 then q_on (q_tpo T n se t ow g) else if v = nI 1 then q_oc (q_tpo T n se t ow g) else (-1 : Int32)
def A_place (T : Nat → Nat → Nat) (n : Nat) (se : Int32) (ow : Nat) (w v : Int32) : Int32 := match q_ix n w with
  | none => (-1 : Int32)
  | some i => if v = nI 0 then (if ow.testBit i then (-2 : Int32) else nI (q_ba (q_gain T n se i ow) (n - pop8 ow - 1)).1) else if v = nI 1 then (if ow.testBit i then (-2 : Int32) else (q_ba (q_gain T n se i ow) (n - pop8 ow - 1)).2 + nI 1000) else (-1 : Int32)
def A_burn (T : Nat → Nat → Nat) (n : Nat) (se : Int32) (ow : Nat) (w : Int32) : Int32 := match q_ix n w with
  | none => (-1 : Int32)
  | some i => if ow.testBit i then (-2 : Int32) else q_oc (q_min (q_bn T n se i ow) (ow + 1))
def A_share (T : Nat → Nat → Nat) (n : Nat) (se : Int32) (ow : Nat) : Int32 := (q_b1 (q_gv T n se ow) n n 0 ((-4 : Int32), nI 0)).1
def q_lks (P : Nat → Bool) : Nat → Nat × Int32
  | 0 => (0, (-4 : Int32))
  | k + 1 => if P (99 - k) then ((q_lks P k).1 + 1, nI (99 - k)) else q_lks P k
def q_lkP (T : Nat → Nat → Nat) (i sc : Nat) (SP SO : Nat → Nat) (SB : Nat → Bool) (v : Nat) : Bool := q_ft T i v SP SO SB sc
def A_likes (T : Nat → Nat → Nat) (n sc : Nat) (SP SO : Nat → Nat) (SB : Nat → Bool) (w v : Int32) : Int32 := match q_ix n w with
  | none => (-1 : Int32)
  | some i => if v = nI 0 then nI (q_lks (q_lkP T i sc SP SO SB) 100).1 else if v = nI 1 then (q_lks (q_lkP T i sc SP SO SB) 100).2 else (-1 : Int32)
def q_dy (T : Nat → Nat → Nat) (n z ow : Nat) : Nat → Nat := fun j => pop8 (q_yr T n z ow j)
def A_year (T : Nat → Nat → Nat) (n ow : Nat) (w v y : Int32) : Int32 := match q_ix 10000 w with
  | none => (-1 : Int32)
  | some z => match q_ix 101 v with
    | none => (-1 : Int32)
    | some d => if d = 0 then (-1 : Int32) else if y = nI 0 then nI (pop8 (q_yr T n z ow d)) else if y = nI 1 then nI (q_by (fun j => pop8 (q_yr T n z ow j)) d).1 else (-1 : Int32)
def A_count (n ow : Nat) (ss : Int32) (sc u kc tn : Nat) (w : Int32) : Int32 := if w = nI 0 then nI n else if w = nI 1 then nI ow else if w = nI 2 then ss else if w = nI 3 then nI sc else if w = nI 4 then nI u else if w = nI 5 then nI kc else if w = nI 6 then nI tn else (-1 : Int32)
-- the calls that change
def q_wok (tn : Nat) (w : Int32) : Option Nat := match q_ix 9 w with
  | none => none
  | some k => if k = 0 then none else if tn + k ≤ 300 then some k else none
def A_write (tn : Nat) (w : Int32) : Int32 := match q_ix 9 w with
  | none => (-1 : Int32)
  | some k => if k = 0 then (-1 : Int32) else if tn + k ≤ 300 then nI (tn + k) else (-3 : Int32)
def q_vb (v : Int64) (k : Nat) : Nat := (v.toBitVec.extractLsb' (8 * k) 8).toNat
def q_wn (tn : Nat) (w : Int32) : Nat := match q_wok tn w with
  | none => tn
  | some k => tn + k
def q_wf (tn : Nat) (tf : Nat → Nat) (w : Int32) (v : Int64) : Nat → Nat := match q_wok tn w with
  | none => tf
  | some k => fun j => if j < tn then tf j else q_vb v (k - 1 - (j - tn))
def q_lok (tn : Nat) (tf : Nat → Nat) : Bool := (q_fl tn tf).1.isNone && decide (¬ (q_fl tn tf).2.1 = 0)
def A_lay (tn : Nat) (tf : Nat → Nat) : Int32 := if q_lok tn tf then nI (q_fl tn tf).2.1 else (-2 : Int32)
def q_ln (tn : Nat) (tf : Nat → Nat) (n : Nat) : Nat := if q_lok tn tf then (q_fl tn tf).2.1 else n
def q_lT (tn : Nat) (tf : Nat → Nat) (T : Nat → Nat → Nat) : Nat → Nat → Nat := if q_lok tn tf then (q_fl tn tf).2.2.1 else T
def q_lo (tn : Nat) (tf : Nat → Nat) (ow : Nat) : Nat := if q_lok tn tf then (q_fl tn tf).2.2.2.1 else ow
def q_ls (tn : Nat) (tf : Nat → Nat) (ss : Int32) : Int32 := if q_lok tn tf then nI (q_fl tn tf).2.2.2.2 else ss
def q_lP (tn : Nat) (tf : Nat → Nat) (P : Nat → Nat) : Nat → Nat := if q_lok tn tf then (fun i => (q_fl tn tf).2.2.1 i 4) else P
def q_lz (tn : Nat) (tf : Nat → Nat) (u : Nat) : Nat := if q_lok tn tf then 0 else u
/-- who buys can pay: those below i -/
def q_cp (T : Nat → Nat → Nat) (n ow : Nat) (P : Nat → Nat) (S : Nat) : Nat → Bool
  | 0 => true
  | i + 1 => q_cp T n ow P S i && (!(S.testBit i) || decide (q_oth T n i (ow ||| S) ≤ P i))
def q_sm (T : Nat → Nat → Nat) (n ow S : Nat) : Nat → Nat
  | 0 => 0
  | i + 1 => q_sm T n ow S i + (if S.testBit i then q_oth T n i (ow ||| S) else 0)
def q_bok (T : Nat → Nat → Nat) (n ow : Nat) (P : Nat → Nat) (w : Int32) : Option Nat := match q_ix (2 ^ n) w with
  | none => none
  | some S => if S = 0 then none else if ow &&& S = 0 ∧ q_cp T n ow P S n = true then some S else none
def A_buy (T : Nat → Nat → Nat) (n ow : Nat) (P : Nat → Nat) (w : Int32) : Int32 := match q_ix (2 ^ n) w with
  | none => (-1 : Int32)
  | some S => if S = 0 then (-1 : Int32) else if ow &&& S = 0 ∧ q_cp T n ow P S n = true then nI (q_sm T n ow S n) else (-2 : Int32)
def q_bo (T : Nat → Nat → Nat) (n ow : Nat) (P : Nat → Nat) (w : Int32) : Nat := match q_bok T n ow P w with
  | none => ow
  | some S => ow ||| S
def q_bP (T : Nat → Nat → Nat) (n ow : Nat) (P : Nat → Nat) (w : Int32) : Nat → Nat := match q_bok T n ow P w with
  | none => P
  | some S => fun i => if S.testBit i then P i - q_oth T n i (ow ||| S) else P i
/-- behind a call that may have been refused: one more to be undone, if it was not -/
def q_uu (ok : Bool) (u : Nat) : Nat := if ok then q_pb 8 u + 1 else u
def q_uO (ok : Bool) (u : Nat) (O : Nat → Nat) (ow : Nat) : Nat → Nat := if ok then q_pO 8 u O ow else O
def q_uQ (ok : Bool) (u : Nat) (Q : Nat → Nat → Nat) (P : Nat → Nat) : Nat → Nat → Nat := if ok then q_pQ 8 u Q P else Q
def q_tok (n ow : Nat) (w : Int32) : Option Nat := match q_ix n w with
  | none => none
  | some i => if ow.testBit i then some i else none
def A_toss (n ow : Nat) (w : Int32) : Int32 := match q_ix n w with
  | none => (-1 : Int32)
  | some i => if ow.testBit i then nI (pop8 (q_nd ow (2 ^ i))) else (-2 : Int32)
def q_to (n ow : Nat) (w : Int32) : Nat := match q_tok n ow w with
  | none => ow
  | some i => q_nd ow (2 ^ i)
def q_sok (T : Nat → Nat → Nat) (n ow : Nat) (P : Nat → Nat) (w v : Int32) : Option (Nat × Nat) := match q_ix n w with
  | none => none
  | some i => match q_ix n v with
    | none => none
    | some j => if i = j then none else if ow.testBit i = true ∧ ow.testBit j = false ∧ q_oth T n j (q_nd ow (2 ^ i)) ≤ P j then some (i, j) else none
def A_sell (T : Nat → Nat → Nat) (n ow : Nat) (P : Nat → Nat) (w v : Int32) : Int32 := match q_ix n w with
  | none => (-1 : Int32)
  | some i => match q_ix n v with
    | none => (-1 : Int32)
    | some j => if i = j then (-1 : Int32) else if ow.testBit i = true ∧ ow.testBit j = false ∧ q_oth T n j (q_nd ow (2 ^ i)) ≤ P j then nI (q_oth T n j (q_nd ow (2 ^ i))) else (-2 : Int32)
def q_so (T : Nat → Nat → Nat) (n ow : Nat) (P : Nat → Nat) (w v : Int32) : Nat := match q_sok T n ow P w v with
  | none => ow
  | some x => q_nd ow (2 ^ x.1) ||| 2 ^ x.2
def q_sP (T : Nat → Nat → Nat) (n ow : Nat) (P : Nat → Nat) (w v : Int32) : Nat → Nat := match q_sok T n ow P w v with
  | none => P
  | some x => fun k => if k = x.1 then P k + q_oth T n x.2 (q_nd ow (2 ^ x.1)) else if k = x.2 then P k - q_oth T n x.2 (q_nd ow (2 ^ x.1)) else P k
def A_undo (u : Nat) : Int32 := if u = 0 then (-2 : Int32) else nI (u - 1)
def q_po (u : Nat) (O : Nat → Nat) (ow : Nat) : Nat := if u = 0 then ow else O (u - 1)
def q_pP (u : Nat) (Q : Nat → Nat → Nat) (P : Nat → Nat) : Nat → Nat := if u = 0 then P else Q (u - 1)
def q_nok (n sc : Nat) (w v : Int32) : Option (Nat × Nat) := match q_ix n w with
  | none => none
  | some i => match q_ix 8 v with
    | none => none
    | some q => if sc < 8 then some (i, q) else none
def A_seen (n sc : Nat) (w v : Int32) : Int32 := match q_ix n w with
  | none => (-1 : Int32)
  | some i => match q_ix 8 v with
    | none => (-1 : Int32)
    | some q => if sc < 8 then nI (sc + 1) else (-3 : Int32)
def q_nc (n sc : Nat) (w v : Int32) : Nat := match q_nok n sc w v with
  | none => sc
  | some _ => sc + 1
def q_nP (n sc : Nat) (w v : Int32) (SP : Nat → Nat) : Nat → Nat := match q_nok n sc w v with
  | none => SP
  | some x => fun k => if k = sc then x.1 else SP k
def q_nO (n sc : Nat) (w v : Int32) (SO : Nat → Nat) : Nat → Nat := match q_nok n sc w v with
  | none => SO
  | some x => fun k => if k = sc then x.2 else SO k
def q_nB (n sc : Nat) (w v : Int32) (b : Bool) (SB : Nat → Bool) : Nat → Bool := match q_nok n sc w v with
  | none => SB
  | some _ => fun k => if k = sc then b else SB k
def A_keep (kc : Nat) : Int32 := if kc < 2 then nI (kc + 1) else (-3 : Int32)
def q_kc (kc : Nat) : Nat := if kc < 2 then kc + 1 else kc
def q_kO (kc : Nat) (O : Nat → Nat) (ow : Nat) : Nat → Nat := if kc < 2 then q_pO 2 kc O ow else O
def q_kQ (kc : Nat) (Q : Nat → Nat → Nat) (P : Nat → Nat) : Nat → Nat → Nat := if kc < 2 then q_pQ 2 kc Q P else Q
def A_back (kc : Nat) : Int32 := if kc = 0 then (-2 : Int32) else nI (kc - 1)
def q_bu (kc u : Nat) : Nat := if kc = 0 then u else 0
-- facts of these
theorem q_baG (g : Nat → Int32) : ∀ m, g (q_ba g m).1 = (q_ba g m).2
  | 0 => rfl
  | m + 1 => by
    rw [q_ba]
    split
    · rfl
    · exact q_baG g m
theorem q_ba_le (g : Nat → Int32) : ∀ m, (q_ba g m).1 ≤ m
  | 0 => Nat.le_refl 0
  | m + 1 => by
    rw [q_ba]
    split
    · exact Nat.le_refl _
    · exact Nat.le_succ_of_le (q_ba_le g m)
theorem q_tpE {T : Nat → Nat → Nat} {n : Nat} {se : Int32} {t : Bool} {ow goal : Nat} : q_tp T n se t ow goal = q_oc (q_tpo T n se t ow goal) := by
  unfold q_tp q_tpo
  split <;> rfl
theorem q_min_lt {P : Nat → Bool} : ∀ {N b : Nat}, q_min P N = some b → b < N
  | 0, b, h => by cases h
  | N + 1, b, h => by
    rw [q_min] at h
    cases hm : q_min P N with
    | none =>
      rw [hm] at h
      simp only at h
      split at h
      · cases h; omega
      · cases h
    | some a =>
      have := q_min_lt hm
      rw [hm] at h
      simp only at h
      split at h
      · cases h; omega
      · cases h; omega
theorem q_tpo_lt {T : Nat → Nat → Nat} {n : Nat} {se : Int32} {t : Bool} {ow goal b : Nat} (h : q_tpo T n se t ow goal = some b) : b < 2 ^ n := by
  unfold q_tpo at h
  split at h
  · exact q_min_lt h
  · cases h
