/-! the reference's changes -/
theorem q_Mi_push {n uc ow : Nat} {O : Nat → Nat} {Q : Nat → Nat → Nat} {P : Nat → Nat} {mB mP w : Nat → Int32} (hn : n ≤ 7) (h : q_Mi 8 n uc O Q mB) (how : ow < 2 ^ n) (hp : ∀ i, i < n → mP i = nI (P i))
    (hw : (∀ i, i < 7 → w (8 * q_pb 8 uc + 1 + i) = mP i) ∧ w (8 * q_pb 8 uc) = nI ow ∧ ∀ j, j < 8 * q_pb 8 uc → w j = if uc < 8 then mB j else mB (j + 8)) : q_Mi 8 n (q_pb 8 uc + 1) (q_pO 8 uc O ow) (q_pQ 8 uc Q P) w := by
  have hb : q_pb 8 uc + 1 ≤ 8 ∧ q_pb 8 uc ≤ uc := by unfold q_pb; have := h.1; split <;> omega
  refine ⟨hb.1, fun j hj => ?_⟩
  unfold q_pO q_pQ
  by_cases e : j = q_pb 8 uc
  · rw [if_pos e, if_pos e, e]
    exact ⟨how, hw.2.1, fun i hi => by rw [hw.1 i (by omega), hp i hi]⟩
  · rw [if_neg e, if_neg e]
    have hj2 : j < q_pb 8 uc := by omega
    by_cases c : uc < 8
    · rw [if_pos c, if_pos c]
      have h2 := h.2 j (by omega)
      exact ⟨h2.1, by rw [hw.2.2 _ (by omega), if_pos c]; exact h2.2.1, fun i hi => by rw [hw.2.2 _ (by omega), if_pos c]; exact h2.2.2 i hi⟩
    · rw [if_neg c, if_neg c]
      have hu : uc = 8 := by have := h.1; omega
      have hb2 : q_pb 8 uc = 7 := by unfold q_pb; rw [if_neg c]
      have h2 := h.2 (j + 1) (by omega)
      exact ⟨h2.1, by rw [hw.2.2 _ (by omega), if_neg c, show 8 * j + 8 = 8 * (j + 1) from by omega]; exact h2.2.1, fun i hi => by rw [hw.2.2 _ (by omega), if_neg c, show 8 * j + 1 + i + 8 = 8 * (j + 1) + 1 + i from by omega]; exact h2.2.2 i hi⟩
theorem q_Mi_keep {n kc ow : Nat} {O : Nat → Nat} {Q : Nat → Nat → Nat} {P : Nat → Nat} {mE mP w : Nat → Int32} (hn : n ≤ 7) (h : q_Mi 2 n kc O Q mE) (how : ow < 2 ^ n) (hp : ∀ i, i < n → mP i = nI (P i)) (c : kc < 2)
    (hw : (∀ i, i < 7 → w (8 * kc + 1 + i) = mP i) ∧ w (8 * kc) = nI ow ∧ ∀ j, j < 8 * kc → w j = mE j) : q_Mi 2 n (kc + 1) (q_pO 2 kc O ow) (q_pQ 2 kc Q P) w := by
  have hb : q_pb 2 kc = kc := by unfold q_pb; rw [if_pos c]
  refine ⟨by omega, fun j hj => ?_⟩
  unfold q_pO q_pQ
  rw [hb]
  by_cases e : j = kc
  · rw [if_pos e, if_pos e, e]
    exact ⟨how, hw.2.1, fun i hi => by rw [hw.1 i (by omega), hp i hi]⟩
  · rw [if_neg e, if_neg e, if_pos c, if_pos c]
    have h2 := h.2 j (by omega)
    exact ⟨h2.1, by rw [hw.2.2 _ (by omega)]; exact h2.2.1, fun i hi => by rw [hw.2.2 _ (by omega)]; exact h2.2.2 i hi⟩
theorem q_puM {b k : Nat} {g mP : Nat → Int32} {v : Int32} (h : (∀ i, i < k → g (8 * b + 1 + i) = mP i) ∧ g (8 * b) = v) : (∀ i, i < k + 1 → upd g (8 * b + 1 + k) (mP k) (8 * b + 1 + i) = mP i) ∧ upd g (8 * b + 1 + k) (mP k) (8 * b) = v := by
  unfold upd
  refine ⟨fun i hi => ?_, by rw [if_neg (by omega)]; exact h.2⟩
  by_cases e : i = k
  · rw [e, if_pos rfl]
  · rw [if_neg (by omega)]; exact h.1 i (by omega)
theorem q_xnd {ow i : Nat} (ho : ow < 128) (hi : i < 7) (hb : ow.testBit i = true) : ow ^^^ 2 ^ i = q_nd ow (2 ^ i) := by
  have : ∀ i, i < 7 → ∀ ow, ow < 128 → ow.testBit i = true → ow ^^^ 2 ^ i = q_nd ow (2 ^ i) := by decide +kernel
  exact this i hi ow ho hb
theorem q_xsd {ow i j : Nat} (ho : ow < 128) (hi : i < 7) (hj : j < 7) (hb : ow.testBit i = true) (hc : ow.testBit j = false) : ow ^^^ (2 ^ i ||| 2 ^ j) = q_nd ow (2 ^ i) ||| 2 ^ j := by
  have : ∀ i, i < 7 → ∀ j, j < 7 → ∀ ow, ow < 128 → ow.testBit i = true → ow.testBit j = false → ow ^^^ (2 ^ i ||| 2 ^ j) = q_nd ow (2 ^ i) ||| 2 ^ j := by decide +kernel
  exact this i hi j hj ow ho hb hc
theorem q_sellM {n i j C : Nat} {P : Nat → Nat} {mP : Nat → Int32} (hPn : ∀ i, i < n → mP i = nI (P i)) (hij : ¬ i = j) :
    ∀ k, k < n → upd (upd mP i (nI (P i + C))) j (nI (P j - C)) k = nI (if k = i then P k + C else if k = j then P k - C else P k) := by
  intro k hk
  unfold upd
  by_cases e2 : k = j
  · rw [if_pos e2, if_neg (by omega), if_pos e2, e2]
  · rw [if_neg e2, if_neg e2]
    by_cases e : k = i
    · rw [if_pos e, if_pos e, e]
    · rw [if_neg e, if_neg e]; exact hPn k hk
theorem q_inDN {d hi : Nat} (h : d ≤ hi) (h3 : hi < 2147483648) : bI (q_inb (nI d).toInt64 (1 : Int64) (nI hi).toInt64) = bI (decide (1 ≤ d)) := by
  by_cases c : 1 ≤ d
  · rw [decide_eq_true c]; exact q_in1 (lo := 1) (hi := hi) rfl (q_lk0 h3) c h h3
  · rw [decide_eq_false c]; exact q_in2 (lo := 1) (hi := hi) rfl (q_lk0 h3) (by omega) (by decide)
theorem q_buyH {n k S : Nat} {P C : Nat → Nat} {g : Nat → Int32} (hg : ∀ k0, k0 < n → g k0 = nI (if k0 < k ∧ S.testBit k0 = true then P k0 - C k0 else P k0)) (hb : S.testBit k = false) :
    ∀ k0, k0 < n → upd g k (nI (P k)) k0 = nI (if k0 < k + 1 ∧ S.testBit k0 = true then P k0 - C k0 else P k0) := by
  intro k0 hk0
  unfold upd
  by_cases e : k0 = k
  · rw [if_pos e, if_neg (fun z => by rw [e, hb] at z; exact absurd z.2 (by decide)), e]
  · rw [if_neg e, hg k0 hk0]; exact congrArg nI (q_ifk (fun z => absurd z e))
def q_cc (T : Nat → Nat → Nat) (n ow : Nat) (P : Nat → Nat) (S i : Nat) : Bool := decide (ow &&& S = 0) && q_cp T n ow P S i
theorem q_cc1 {T : Nat → Nat → Nat} {n ow : Nat} {P : Nat → Nat} {S i : Nat} (h : q_cc T n ow P S i = false) : q_cc T n ow P S (i + 1) = false := by
  unfold q_cc at h ⊢
  cases hd : decide (ow &&& S = 0) with
  | false => rfl
  | true =>
    rw [hd, Bool.true_and] at h
    rw [q_cp, h]; rfl
theorem q_cc2 {T : Nat → Nat → Nat} {n ow : Nat} {P : Nat → Nat} {S i : Nat} (h : q_cc T n ow P S i = true) (hb : S.testBit i = false) : q_cc T n ow P S (i + 1) = true := by
  unfold q_cc at h ⊢
  rw [Bool.and_eq_true] at h ⊢
  exact ⟨h.1, q_cpS1 h.2 hb⟩
theorem q_cc3 {T : Nat → Nat → Nat} {n ow : Nat} {P : Nat → Nat} {S i : Nat} (h : q_cc T n ow P S i = true) (hc : q_oth T n i (ow ||| S) ≤ P i) : q_cc T n ow P S (i + 1) = true := by
  unfold q_cc at h ⊢
  rw [Bool.and_eq_true] at h ⊢
  exact ⟨h.1, q_cpS2 h.2 hc⟩
theorem q_cc4 {T : Nat → Nat → Nat} {n ow : Nat} {P : Nat → Nat} {S i : Nat} (hb : S.testBit i = true) (hc : ¬ q_oth T n i (ow ||| S) ≤ P i) : q_cc T n ow P S (i + 1) = false := by
  unfold q_cc
  rw [q_cpF hb hc (Nat.lt_succ_self i), Bool.and_false]
theorem q_ccT {T : Nat → Nat → Nat} {n ow : Nat} {P : Nat → Nat} {S i : Nat} (h : q_cc T n ow P S i = true) : ow &&& S = 0 ∧ q_cp T n ow P S i = true := by
  unfold q_cc at h
  rw [Bool.and_eq_true] at h
  exact ⟨of_decide_eq_true h.1, h.2⟩
theorem q_ccF {T : Nat → Nat → Nat} {n ow : Nat} {P : Nat → Nat} {S i : Nat} (h : q_cc T n ow P S i = false) : ¬ (ow &&& S = 0 ∧ q_cp T n ow P S i = true) := fun z => by
  unfold q_cc at h
  rw [z.2, decide_eq_true z.1] at h; cases h
theorem q_vbM {v : Int64} {j : Nat} (hj : j < 8) : (v >>> ((nI (8 * j)).toInt64 &&& 63) &&& (255 : Int64)).toInt32 = nI (q_vb v j) := by
  have h : ∀ j, j < 8 → (((nI (8 * j)).toInt64 &&& 63).toBitVec.smod 64).toNat = 8 * j := by decide +kernel
  apply Int32.toBitVec_inj.1
  apply BitVec.eq_of_getLsbD_eq
  intro i hi
  show (BitVec.signExtend 32 ((v.toBitVec.sshiftRight (((nI (8 * j)).toInt64 &&& 63).toBitVec.smod 64).toNat) &&& BitVec.ofNat 64 255)).getLsbD i = (BitVec.ofNat 32 (q_vb v j)).getLsbD i
  rw [h j hj, BitVec.getLsbD_signExtend, BitVec.getLsbD_and, BitVec.getLsbD_ofNat, BitVec.getLsbD_ofNat, BitVec.getLsbD_sshiftRight]
  have h255 : (255 : Nat).testBit i = decide (i < 8) := by
    have : ∀ i, i < 32 → (255 : Nat).testBit i = decide (i < 8) := by decide +kernel
    exact this i hi
  unfold q_vb
  rw [h255, show ((v.toBitVec.extractLsb' (8 * j) 8).toNat).testBit i = (v.toBitVec.extractLsb' (8 * j) 8).getLsbD i from rfl, BitVec.getLsbD_extractLsb']
  by_cases c : i < 8
  · simp [c, hi, show i < 64 from by omega, show 8 * j + i < 64 from by omega, show ¬ 64 ≤ i from by omega]
  · simp [c]
    intro _ h2; omega
theorem q_Tm0 {tn k : Nat} {tf : Nat → Nat} {mT : Nat → Int32} {v : Int64} (h : q_Tm tn tf mT) : q_Tm (tn + (k - k)) (fun i => if i < tn then tf i else q_vb v (k - 1 - (i - tn))) mT := by
  rw [Nat.sub_self, Nat.add_zero]
  refine ⟨h.1, fun j hj => ?_⟩
  show (if j < tn then tf j else _) < 256 ∧ mT j = nI (if j < tn then tf j else _)
  rw [if_pos hj]; exact h.2 j hj
theorem q_TmS {a b : Nat} {W : Nat → Nat} {g : Nat → Int32} (h : q_Tm a W g) (ha : a < 300) (hW : W a = b) (hb : b < 256) : q_Tm (a + 1) W (upd g a (nI b)) := by
  refine ⟨by omega, fun j hj => ?_⟩
  unfold upd
  by_cases e : j = a
  · rw [if_pos e, e, hW]; exact ⟨hb, rfl⟩
  · rw [if_neg e]; exact h.2 j (by omega)
-- texts, read the reference's way
def q_mn (tn : Nat) (tf : Nat → Nat) (mo : Int32) (en p : Nat) : Option Nat := match (q_num tn tf p).1 with
  | none => none
  | some v => if nI v ≤ mo ∧ (q_num tn tf p).2 < tn ∧ tf (q_num tn tf p).2 = en then some v else none
def q_ma (tn : Nat) (tf : Nat → Nat) (mo : Int32) (en p : Nat) : Nat := match q_mn tn tf mo en p with
  | none => (q_num tn tf p).2
  | some _ => (q_num tn tf p).2 + 1
theorem q_dgv {tn : Nat} {tf : Nat → Nat} {p a : Nat} (h : q_dg tn tf p = some a) : 48 ≤ tf p ∧ tf p = a + 48 ∧ p < tn := by
  unfold q_dg at h
  by_cases hc : p < tn ∧ 48 ≤ tf p ∧ tf p ≤ 57
  · rw [if_pos hc] at h
    have := Option.some.inj h
    omega
  · rw [if_neg hc] at h; cases h
theorem q_dgF {tn : Nat} {tf : Nat → Nat} {p : Nat} (h : tn ≤ p) : q_dg tn tf p = none := by unfold q_dg; rw [if_neg (by omega)]
theorem q_dgD {tn : Nat} {tf : Nat → Nat} {p : Nat} (hp : p < tn) : (q_dg tn tf p).isSome = decide (48 ≤ tf p ∧ tf p ≤ 57) := by
  unfold q_dg
  by_cases c : 48 ≤ tf p ∧ tf p ≤ 57
  · rw [if_pos ⟨hp, c⟩, decide_eq_true c]; rfl
  · rw [if_neg (fun z => c z.2), decide_eq_false c]; rfl
theorem q_inF9 {d : Nat} (h : d < 256) : bI (q_inb (nI d).toInt64 (48 : Int64) (57 : Int64)) = bI (decide (48 ≤ d ∧ d ≤ 57)) := by
  have : ∀ d, d < 256 → bI (q_inb (nI d).toInt64 (48 : Int64) (57 : Int64)) = bI (decide (48 ≤ d ∧ d ≤ 57)) := by decide +kernel
  exact this d h
theorem q_mnN {tn : Nat} {tf : Nat → Nat} {mo : Int32} {en p : Nat} (h : (q_num tn tf p).1 = none) : q_mn tn tf mo en p = none := by rw [q_mn, h]
theorem q_mnF {tn : Nat} {tf : Nat → Nat} {mo : Int32} {en p v : Nat} (h : (q_num tn tf p).1 = some v) (hc : ¬ (nI v ≤ mo ∧ (q_num tn tf p).2 < tn ∧ tf (q_num tn tf p).2 = en)) : q_mn tn tf mo en p = none := by rw [q_mn, h]; exact if_neg hc
theorem q_mnT {tn : Nat} {tf : Nat → Nat} {mo : Int32} {en p v : Nat} (h : (q_num tn tf p).1 = some v) (hc : nI v ≤ mo ∧ (q_num tn tf p).2 < tn ∧ tf (q_num tn tf p).2 = en) : q_mn tn tf mo en p = some v := by rw [q_mn, h]; exact if_pos hc
theorem q_maN {tn : Nat} {tf : Nat → Nat} {mo : Int32} {en p : Nat} (h : q_mn tn tf mo en p = none) : q_ma tn tf mo en p = (q_num tn tf p).2 := by rw [q_ma, h]
theorem q_maS {tn : Nat} {tf : Nat → Nat} {mo : Int32} {en p v : Nat} (h : q_mn tn tf mo en p = some v) : q_ma tn tf mo en p = (q_num tn tf p).2 + 1 := by rw [q_ma, h]
theorem q_mn_some {tn : Nat} {tf : Nat → Nat} {mo : Int32} {en p v : Nat} (h : q_mn tn tf mo en p = some v) : (q_num tn tf p).1 = some v ∧ nI v ≤ mo ∧ (q_num tn tf p).2 < tn ∧ tf (q_num tn tf p).2 = en := by
  cases hn : (q_num tn tf p).1 with
  | none => rw [q_mnN hn] at h; cases h
  | some a =>
    by_cases hc : nI a ≤ mo ∧ (q_num tn tf p).2 < tn ∧ tf (q_num tn tf p).2 = en
    · rw [q_mnT hn hc] at h; cases h; exact ⟨rfl, hc⟩
    · rw [q_mnF hn hc] at h; cases h
theorem q_mn_none {tn : Nat} {tf : Nat → Nat} {mo : Int32} {en p v : Nat} (h : q_mn tn tf mo en p = none) (hn : (q_num tn tf p).1 = some v) (hm : nI v ≤ mo) : ¬ ((q_num tn tf p).2 < tn ∧ tf (q_num tn tf p).2 = en) := fun z => by rw [q_mnT hn ⟨hm, z⟩] at h; cases h
def q_mo (k : Nat) : Nat := if k = 0 then 3 else if k = 2 then 18 else if k = 3 then 7 else 99
def q_tp5 (tn : Nat) (tf : Nat → Nat) (m p : Nat) : Option (List Nat × Nat) := match q_ns tn tf 5 p with
  | none => none
  | some x => if q_adOk m (x.1.getD 0 0) (x.1.getD 2 0) (x.1.getD 3 0) then some x else none
theorem q_tp5N {tn : Nat} {tf : Nat → Nat} {m p : Nat} (h : q_ns tn tf 5 p = none) : q_tp5 tn tf m p = none := by rw [q_tp5, h]
theorem q_tp5F {tn : Nat} {tf : Nat → Nat} {m p : Nat} {x : List Nat × Nat} (h : q_ns tn tf 5 p = some x) (ho : q_adOk m (x.1.getD 0 0) (x.1.getD 2 0) (x.1.getD 3 0) = false) : q_tp5 tn tf m p = none := by rw [q_tp5, h]; exact if_neg (by rw [ho]; decide)
theorem q_tp5S {tn : Nat} {tf : Nat → Nat} {m p : Nat} {x : List Nat × Nat} (h : q_ns tn tf 5 p = some x) (ho : q_adOk m (x.1.getD 0 0) (x.1.getD 2 0) (x.1.getD 3 0) = true) : q_tp5 tn tf m p = some x := by rw [q_tp5, h]; exact if_pos ho
theorem q_tp5M {tn : Nat} {tf : Nat → Nat} {m p : Nat} (hm : ¬ m < 7) : q_tp5 tn tf m p = none := by
  cases h : q_ns tn tf 5 p with
  | none => exact q_tp5N h
  | some x => exact q_tp5F h (decide_eq_false (fun z => hm z.1))
theorem q_itP4 {tn : Nat} {tf : Nat → Nat} {m : Nat} {R : Nat → Nat → Nat} {fo se p : Nat} (ht : tf p = 112) : q_item tn tf m R fo se p = (match q_tp5 tn tf m (p + 1) with | none => none | some x => some (m + 1, q_upT R m (x.1.getD 0 0) (x.1.getD 1 0) (x.1.getD 2 0) (x.1.getD 3 0) (x.1.getD 4 0), fo, se, x.2)) := by
  cases h : q_ns tn tf 5 (p + 1) with
  | none => rw [q_itP1 ht h, q_tp5N h]
  | some x =>
    cases ho : q_adOk m (x.1.getD 0 0) (x.1.getD 2 0) (x.1.getD 3 0) with
    | false => rw [q_itP3 ht h ho, q_tp5F h ho]
    | true => rw [q_itP2 ht h ho, q_tp5S h ho]
/-- a number too big for its place: no PERSON -/
theorem q_big {tn : Nat} {tf : Nat → Nat} {m p0 k pq v : Nat} {pre : List Nat} (hk : k < 5) (hpre : pre.length = k) (hSS : (q_ns tn tf 5 p0).isSome = (q_ns tn tf (5 - k) pq).isSome ∧ ∀ x, q_ns tn tf (5 - k) pq = some x → q_ns tn tf 5 p0 = some (pre ++ x.1, x.2))
    (hn : (q_num tn tf pq).1 = some v) (hb : q_mo k < v) : q_tp5 tn tf m p0 = none := by
  cases h : q_ns tn tf 5 p0 with
  | none => exact q_tp5N h
  | some x =>
    refine q_tp5F h (decide_eq_false fun z => ?_)
    have h1 := hSS.1
    rw [h] at h1
    obtain ⟨y, hy⟩ := q_isS h1.symm
    have h2 := hSS.2 y hy
    rw [h] at h2
    have hx := Option.some.inj h2
    have hv := q_num_le hn
    have hy1 : ∃ l, y.1 = v :: l := by
      rw [show 5 - k = (5 - k - 1) + 1 from by omega] at hy
      by_cases hc : (q_num tn tf pq).2 < tn ∧ tf (q_num tn tf pq).2 = (if 5 - k - 1 = 0 then 59 else 44)
      · rw [q_ns_s hn hc] at hy
        cases hr : q_ns tn tf (5 - k - 1) ((q_num tn tf pq).2 + 1) with
        | none => rw [hr] at hy; cases hy
        | some q => rw [hr] at hy; cases hy; exact ⟨q.1, rfl⟩
      · rw [q_ns_n2 hn hc] at hy; cases hy
    obtain ⟨lst, hlst⟩ := hy1
    have hxk : x.1.getD k 0 = v := by
      rw [hx]
      show (pre ++ y.1).getD k 0 = v
      rw [hlst, List.getD_eq_getElem?_getD, List.getElem?_append_right (by omega), hpre]
      simp
    unfold q_mo at hb
    rcases (by omega : k = 0 ∨ k = 1 ∨ k = 2 ∨ k = 3 ∨ k = 4) with e | e | e | e | e
    · rw [e] at hxk; rw [hxk] at z; rw [if_pos e] at hb; omega
    · rw [if_neg (by omega), if_neg (by omega), if_neg (by omega)] at hb; omega
    · rw [e] at hxk; rw [hxk] at z; rw [if_neg (by omega), if_pos e] at hb; omega
    · rw [e] at hxk; rw [hxk] at z; rw [if_neg (by omega), if_neg (by omega), if_pos e] at hb; omega
    · rw [if_neg (by omega), if_neg (by omega), if_neg (by omega)] at hb; omega
