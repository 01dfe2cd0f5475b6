/-! the answers case by case -/
theorem q_ixd {N k : Nat} {w : Int32} (hk : k < 2147483647) (hN : N = k + 1) (h : q_ix N w = none) (h1 : ¬ w < 0) (h2 : w ≤ nI k) : False := by
  rcases q_ixN (by omega) h with h3 | h3
  · exact h1 h3
  · subst hN
    have := (nI_leI (a := k + 1) (b := k) (by omega) (by omega)).mp (Int32.le_trans h3 h2)
    omega
theorem q_ixneg {w : Int32} (h : q_ix 2147483648 w = none) : w.toInt < 0 := by
  unfold q_ix at h
  by_cases h1 : w.toInt < 0
  · exact h1
  · have := (q_nIof h1).2
    rw [if_neg h1, if_pos (by omega)] at h; cases h
theorem q_m1le {k : Nat} (hk : k < 2147483648) : (-1 : Int32) ≤ nI k := by
  rw [Int32.le_iff_toInt_le, nI_toInt hk, show (-1 : Int32).toInt = -1 from by decide]; omega
theorem q_m1ne {k : Nat} (hk : k < 2147483648) : ¬ nI k = (-1 : Int32) := by
  intro h
  have h2 := congrArg Int32.toInt h
  rw [nI_toInt hk, show (-1 : Int32).toInt = -1 from by decide] at h2; omega
theorem q_m4ne {k : Nat} (hk : k < 2147483648) : ¬ nI k = (-4 : Int32) := by
  intro h
  have h2 := congrArg Int32.toInt h
  rw [nI_toInt hk, show (-4 : Int32).toInt = -4 from by decide] at h2; omega
theorem q_neg1 {w : Int32} (h : w.toInt < 0) (h1 : (-1 : Int32) ≤ w) : w = (-1 : Int32) := by
  rw [Int32.le_iff_toInt_le, show (-1 : Int32).toInt = -1 from by decide] at h1
  rw [← Int32.toInt_inj, show (-1 : Int32).toInt = -1 from by decide]; omega
theorem q_ixne {N k : Nat} {v : Int32} (hk : k < N) (hk2 : k < 2147483648) (h : q_ix N v = none) : ¬ v = nI k := by
  intro e; rw [e, q_ixI hk hk2] at h; cases h
theorem q_ixmono {N M : Nat} {v : Int32} (hN : N < 2147483648) (hM : M ≤ N) (h : q_ix N v = none) : q_ix M v = none := by
  rcases q_ixN hN h with h1 | h1
  · exact q_ix_lt h1
  · exact q_ix_ge (by omega) (Int32.le_trans ((nI_leI (by omega) hN).mpr hM) h1)
theorem q_cpS1 {T : Nat → Nat → Nat} {n ow : Nat} {P : Nat → Nat} {S i : Nat} (h : q_cp T n ow P S i = true) (hb : S.testBit i = false) : q_cp T n ow P S (i + 1) = true := by rw [q_cp, h, hb]; rfl
theorem q_cpS2 {T : Nat → Nat → Nat} {n ow : Nat} {P : Nat → Nat} {S i : Nat} (h : q_cp T n ow P S i = true) (hc : q_oth T n i (ow ||| S) ≤ P i) : q_cp T n ow P S (i + 1) = true := by rw [q_cp, h, decide_eq_true hc]; simp
theorem q_cpF {T : Nat → Nat → Nat} {n ow : Nat} {P : Nat → Nat} {S i : Nat} (hb : S.testBit i = true) (hc : ¬ q_oth T n i (ow ||| S) ≤ P i) : ∀ {m : Nat}, i < m → q_cp T n ow P S m = false
  | 0, h => absurd h (Nat.not_lt_zero _)
  | m + 1, h => by
    rw [q_cp]
    by_cases e : i = m
    · rw [← e, hb, decide_eq_false hc]; simp
    · rw [q_cpF hb hc (by omega)]; rfl
theorem q_cp_le {T : Nat → Nat → Nat} {n ow : Nat} {P : Nat → Nat} {S i m : Nat} (h : q_cp T n ow P S m = true) (hi : i < m) (hb : S.testBit i = true) : q_oth T n i (ow ||| S) ≤ P i := by
  by_cases hc : q_oth T n i (ow ||| S) ≤ P i
  · exact hc
  · rw [q_cpF hb hc hi] at h; cases h
theorem q_w9 {w : Int32} (h : q_ix 9 w = none) (h1 : ¬ w < nI 1) : ¬ w ≤ nI 8 := by
  intro h2
  refine q_ixd (k := 8) (by decide) rfl h (fun h3 => h1 ?_) h2
  rw [Int32.lt_iff_toInt_lt] at h3 ⊢
  have e0 : (0 : Int32).toInt = 0 := by decide
  have e1 : (nI 1).toInt = 1 := by decide
  omega
theorem q_TxS {a b : Nat} {W : Nat → Nat} {g : Nat → Int32} (h : q_Tx a W g) (ha : a < 300) (hW : W a = b) (hb : b < 256) : q_Tx (a + 1) W (upd g a (vp_nar .byte ((nI b).toInt8.toInt32))) := by
  refine ⟨by omega, fun j hj => ?_⟩
  unfold upd
  by_cases e : j = a
  · rw [if_pos e, e, hW]; exact ⟨hb, rfl⟩
  · rw [if_neg e]; exact h.2 j (by omega)
theorem q_vb_lt (v : Int64) (k : Nat) : q_vb v k < 256 := (v.toBitVec.extractLsb' (8 * k) 8).isLt
theorem q_vbC {v : Int64} {j : Nat} (hj : j < 8) : (v.toUInt64 >>> ((nI (8 * j)).toInt64.toUInt64 &&& Int64.toUInt64 63)).toInt64.toInt32 &&& nI 255 = nI (q_vb v j) := by
  have h : ∀ j, j < 8 → (((nI (8 * j)).toInt64.toUInt64 &&& Int64.toUInt64 63).toBitVec % 64).toNat = 8 * j := by decide +kernel
  apply Int32.toBitVec_inj.1
  apply BitVec.eq_of_getLsbD_eq
  intro i hi
  show ((BitVec.signExtend 32 (v.toBitVec >>> (((nI (8 * j)).toInt64.toUInt64 &&& Int64.toUInt64 63).toBitVec % 64))) &&& BitVec.ofNat 32 255).getLsbD i = (BitVec.ofNat 32 (q_vb v j)).getLsbD i
  rw [BitVec.getLsbD_and, BitVec.getLsbD_signExtend, BitVec.getLsbD_ofNat, BitVec.getLsbD_ofNat]
  rw [BitVec.ushiftRight_eq', h j hj]
  have h255 : (255 : Nat).testBit i = decide (i < 8) := by
    have : ∀ i, i < 32 → (255 : Nat).testBit i = decide (i < 8) := by decide +kernel
    exact this i hi
  unfold q_vb
  rw [h255, show ((v.toBitVec.extractLsb' (8 * j) 8).toNat).testBit i = (v.toBitVec.extractLsb' (8 * j) 8).getLsbD i from rfl, BitVec.getLsbD_extractLsb']
  by_cases c : i < 8
  · simp [c, hi, show i < 64 from by omega]
  · simp [c]
theorem q_fa_lt {tn : Nat} {tf : Nat → Nat} : ∀ {f p m : Nat} {R : Nat → Nat → Nat} {fo se q : Nat}, (q_fa tn tf f p m R fo se).1 = some q → q < tn
  | 0, p, m, R, fo, se, q, h => by cases h
  | f + 1, p, m, R, fo, se, q, h => by
    rw [q_fa] at h
    by_cases hp : p < tn
    · rw [if_pos hp] at h
      cases hi : q_item tn tf m R fo se p with
      | none => rw [hi] at h; cases h; exact hp
      | some y => rw [hi] at h; exact q_fa_lt h
    · rw [if_neg hp] at h; cases h
theorem q_fl_lt {tn : Nat} {tf : Nat → Nat} {q : Nat} (h : (q_fl tn tf).1 = some q) : q < tn := q_fa_lt h
theorem q_lokT {tn : Nat} {tf : Nat → Nat} (h1 : (q_fl tn tf).1 = none) (h2 : ¬ (q_fl tn tf).2.1 = 0) : q_lok tn tf = true := by rw [q_lok, h1, decide_eq_true h2]; rfl
theorem q_lokF1 {tn : Nat} {tf : Nat → Nat} {p : Nat} (h1 : (q_fl tn tf).1 = some p) : q_lok tn tf = false := by rw [q_lok, h1]; rfl
theorem q_lokF2 {tn : Nat} {tf : Nat → Nat} (h2 : (q_fl tn tf).2.1 = 0) : q_lok tn tf = false := by rw [q_lok, h2]; simp
theorem q_lksT {P : Nat → Bool} {j : Nat} (hj : j < 100) (h : P j = true) : q_lks P (100 - j) = ((q_lks P (100 - (j + 1))).1 + 1, nI j) := by
  rw [show 100 - j = (100 - (j + 1)) + 1 from by omega, q_lks, show 99 - (100 - (j + 1)) = j from by omega, if_pos h]
theorem q_lksF {P : Nat → Bool} {j : Nat} (hj : j < 100) (h : P j = false) : q_lks P (100 - j) = q_lks P (100 - (j + 1)) := by
  rw [show 100 - j = (100 - (j + 1)) + 1 from by omega, q_lks, show 99 - (100 - (j + 1)) = j from by omega, if_neg (by rw [h]; decide)]
theorem q_lks_c (P : Nat → Bool) : ∀ k, (q_lks P k).1 ≤ k
  | 0 => Nat.le_refl 0
  | k + 1 => by
    have := q_lks_c P k
    rw [q_lks]; split
    · show (q_lks P k).1 + 1 ≤ k + 1; omega
    · omega
theorem q_toI {w : Int32} {k : Nat} (hk : k < 2147483648) (h : w.toInt = (k : Int)) : w = nI k := by rw [← Int32.toInt_inj, nI_toInt hk]; exact h
theorem A_cnD {n ow : Nat} {ss : Int32} {sc u kc tn : Nat} {w : Int32} (h : w.toInt < 0 ∨ 6 < w.toInt) : A_count n ow ss sc u kc tn w = (-1 : Int32) := by
  have : ∀ k : Nat, k ≤ 6 → ¬ w = nI k := fun k hk e => by rw [e, nI_toInt (by omega)] at h; omega
  rw [A_count, if_neg (this 0 (by decide)), if_neg (this 1 (by decide)), if_neg (this 2 (by decide)), if_neg (this 3 (by decide)), if_neg (this 4 (by decide)), if_neg (this 5 (by decide)), if_neg (this 6 (by decide))]
theorem q_SgS {n sc i q : Nat} {b : Bool} {SP SO : Nat → Nat} {SB : Nat → Bool} {sP sO sB : Nat → Int32} (h : q_Sg sc SP SO SB sP sO sB) (hsc : sc < 8) (hi : i < 7) (hq : q ≤ 7) :
    q_Sg (sc + 1) (fun k => if k = sc then i else SP k) (fun k => if k = sc then q else SO k) (fun k => if k = sc then b else SB k) (upd sP sc (nI i)) (upd sO sc (nI q)) (upd sB sc (bI b)) := by
  refine ⟨by omega, fun k hk => ?_⟩
  unfold upd
  by_cases e : k = sc
  · simp only [if_pos e]; refine ⟨hi, hq, ?_, ?_, ?_⟩ <;> first | rfl | trivial
  · simp only [if_neg e]; exact h.2 k (by omega)
theorem q_nIneg {a b : Nat} (h : b ≤ a) : nI a + (-nI b) = nI (a - b) := by rw [← q_sub h, Int32.sub_eq_add_neg]
theorem q_zs (j : Nat) : j = 0 ∨ ∃ j1, j = j1 + 1 := by cases j with | zero => exact Or.inl rfl | succ j => exact Or.inr ⟨j, rfl⟩
theorem q_cpEnd {T : Nat → Nat → Nat} {n ow : Nat} {P : Nat → Nat} {S i : Nat} (h : q_cp T n ow P S i = true) (e : n = i) : q_cp T n ow P S n = true := by
  have h2 : ∀ m, m = i → q_cp T n ow P S m = true := fun m hm => by rw [hm]; exact h
  exact h2 n e
theorem q_ixd2 {N k : Nat} {w : Int32} (hk : k < 2147483647) (hN : N = k + 1) (h : q_ix N w = none) (h1 : ¬ w < 0) : ¬ ¬ nI k < w := fun z => q_ixd hk hN h h1 (Int32.not_lt.mp z)
theorem q_ixd3 {N k : Nat} {w : Int32} (hk : k < 2147483647) (hN : N = k + 1) (h : q_ix N w = none) (h1 : ¬ w < nI 1) : ¬ ¬ nI k < w := q_ixd2 hk hN h (fun h3 => h1 (by
  rw [Int32.lt_iff_toInt_lt] at h3 ⊢
  have e0 : (0 : Int32).toInt = 0 := by decide
  have e1 : (nI 1).toInt = 1 := by decide
  omega))
theorem q_Tx0 {tn k : Nat} {tf : Nat → Nat} {tby : Nat → Int32} {v : Int64} (h : q_Tx tn tf tby) : q_Tx (tn + (k - k)) (fun i => if i < tn then tf i else q_vb v (k - 1 - (i - tn))) tby := by
  rw [Nat.sub_self, Nat.add_zero]
  refine ⟨h.1, fun j hj => ?_⟩
  show (if j < tn then tf j else _) < 256 ∧ tby j = q_byt (if j < tn then tf j else _)
  rw [if_pos hj]; exact h.2 j hj
theorem q_2i {i n : Nat} (h : i < n) (hn : n ≤ 7) : 2 ^ i < 128 := Nat.pow_lt_pow_right (a := 2) (by decide) (show i < 7 by omega)
theorem q_ifk {k k0 : Nat} {b : Bool} {A B : Nat} (h : k0 = k → ¬ b = true) : (if k0 < k ∧ b = true then A else B) = (if k0 < k + 1 ∧ b = true then A else B) := by
  by_cases c : k0 < k ∧ b = true
  · rw [if_pos c, if_pos ⟨by omega, c.2⟩]
  · rw [if_neg c, if_neg (fun z => ?_)]
    by_cases e : k0 = k
    · exact h e z.2
    · exact c ⟨by omega, z.2⟩
theorem q_ifc {k k0 : Nat} {b : Bool} {A B : Nat} (h : k0 < k) : (if k0 < k ∧ b = true then A else B) = (if b = true then A else B) := by
  by_cases c : b = true
  · rw [if_pos ⟨h, c⟩, if_pos c]
  · rw [if_neg (fun z => c z.2), if_neg c]
theorem q_buyG {n k S : Nat} {P C : Nat → Nat} {g : Nat → Int32} (hg : ∀ k0, k0 < n → g k0 = nI (if k0 < k ∧ S.testBit k0 = true then P k0 - C k0 else P k0)) (hb : S.testBit k = true) :
    ∀ k0, k0 < n → upd g k (nI (P k - C k)) k0 = nI (if k0 < k + 1 ∧ S.testBit k0 = true then P k0 - C k0 else P k0) := by
  intro k0 hk0
  unfold upd
  by_cases e : k0 = k
  · rw [if_pos e, if_pos ⟨by omega, by rw [e]; exact hb⟩, e]
  · rw [if_neg e, hg k0 hk0]; exact congrArg nI (q_ifk (fun z => absurd z e))
theorem q_sellP {n i j C : Nat} {P : Nat → Nat} {pn : Nat → Int32} (hPn : ∀ i, i < n → pn i = nI (P i)) (hi : i < n) (hj : j < n) (hij : ¬ i = j) (hC : C ≤ P j) :
    ∀ k, k < n → upd (upd pn j (pn j + (-nI C))) i ((upd pn j (pn j + (-nI C))) i + nI C) k = nI (if k = i then P k + C else if k = j then P k - C else P k) := by
  intro k hk
  unfold upd
  by_cases e : k = i
  · rw [if_pos e, if_pos e, if_neg hij, hPn i hi, nI_add, e]
  · rw [if_neg e, if_neg e]
    by_cases e2 : k = j
    · rw [if_pos e2, if_pos e2, hPn j hj, q_nIneg hC, e2]
    · rw [if_neg e2, if_neg e2]; exact hPn k hk
theorem q_keepP {n kc ow : Nat} {O : Nat → Nat} {Q : Nat → Nat → Nat} {P : Nat → Nat} {rw1 pn w : Nat → Int32} (hn : n ≤ 7) (h : q_Pi 2 n kc O Q rw1) (how : ow < 2 ^ n) (hp : ∀ i, i < n → pn i = nI (P i)) (c : kc < 2)
    (hw : (∀ i, i < 7 → w (kc * 8 + i) = pn i) ∧ w (kc * 8 + 7) = nI ow ∧ ∀ j, j < kc * 8 → w j = rw1 j) : q_Pi 2 n (kc + 1) (q_pO 2 kc O ow) (q_pQ 2 kc Q P) w := by
  have h2 := q_Pi_push hn (by decide) h how hp (q_poS1 c hw)
  rw [show q_pb 2 kc = kc from by rw [q_pb, if_pos c]] at h2
  exact h2
