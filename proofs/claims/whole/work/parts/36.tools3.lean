/-! tools for the law's walk -/
theorem q_NL_in : ∀ x ∈ q_NL, Cond.methodLinkNest x.1 x.2.1 x.2.2.1 x.2.2.2 ∈ lw_tbl := by decide +kernel
theorem q_N_law {s : State} {args : Array Value} (h : ∀ w ∈ lw_tbl, w.before args s = true) : q_N s := fun x hx => va_Nw.of rfl (h _ (q_NL_in x hx))
theorem q_ac {s : State} {args : Array Value} {ty : FieldType} (hd : ∀ cA, s.vm.findClass ("[" ++ ty.toString) = some cA → va_RA s cA ty) (h : (Cond.arrayClass ty).before args s = true) : ∃ cA, ArrOfT s cA ty ∧ va_RA s cA ty := by
  obtain ⟨cA, kA, comp, h1, h2, h3⟩ := Cond.arrayClass_spec h
  exact ⟨cA, fun n z => ⟨fun k h => (by cases h), kA, h2, comp, h3⟩, hd cA h1⟩
set_option maxRecDepth 20000 in
theorem q_K_law {s : State} {args : Array Value} (h : ∀ w ∈ lw_tbl, w.before args s = true) : ∃ (D : va_G) (cI cB cZ : ClassId), q_K D (q_tys cI cB cZ) s := by
  have hw : ∀ w ∈ wsL_law, w.before args s = true := fun w hw => h w (wsL_law_in w hw)
  obtain ⟨c0, i0, k0⟩ := u_known (C := RX0) (T := TX0) (N := 1) (n := 1) h inX0 (hw (.instantiable RX0 1) (by decide +kernel))
  obtain ⟨c1, i1, k1⟩ := u_known (C := RX1) (T := TX1) (N := 2) (n := 2) h inX1 (hw (.instantiable RX1 2) (by decide +kernel))
  obtain ⟨c2, i2, k2⟩ := u_known (C := RX2) (T := TX2) (N := 2) (n := 2) h inX2 (hw (.instantiable RX2 2) (by decide +kernel))
  obtain ⟨c3, i3, k3⟩ := u_known (C := RX3) (T := TX3) (N := 2) (n := 2) h inX3 (hw (.instantiable RX3 2) (by decide +kernel))
  obtain ⟨c4, i4, k4⟩ := u_known (C := RX4) (T := TX4) (N := 4) (n := 4) h inX4 (hw (.instantiable RX4 4) (by decide +kernel))
  obtain ⟨c5, i5, k5⟩ := u_known (C := RX5) (T := TX5) (N := 3) (n := 3) h inX5 (hw (.instantiable RX5 3) (by decide +kernel))
  obtain ⟨c6, i6, k6⟩ := u_known (C := RX6) (T := TX6) (N := 2) (n := 2) h inX6 (hw (.instantiable RX6 2) (by decide +kernel))
  obtain ⟨c7, i7, k7⟩ := u_known (C := RX7) (T := TX7) (N := 4) (n := 4) h inX7 (hw (.instantiable RX7 4) (by decide +kernel))
  obtain ⟨c8, i8, k8⟩ := u_known (C := RX8) (T := TX8) (N := 2) (n := 2) h inX8 (hw (.instantiable RX8 2) (by decide +kernel))
  obtain ⟨c9, i9, k9⟩ := u_known (C := RX9) (T := TX9) (N := 10) (n := 10) h inX9 (hw (.instantiable RX9 10) (by decide +kernel))
  obtain ⟨c10, i10, k10⟩ := u_known (C := RX10) (T := TX10) (N := 24) (n := 24) h inX10 (hw (.instantiable RX10 24) (by decide +kernel))
  obtain ⟨cI, hI⟩ := q_ac (ty := .int) (fun _ h9 => h9) (hw (.arrayClass .int) (by decide +kernel))
  obtain ⟨cB, hB⟩ := q_ac (ty := .byte) (fun _ h9 => h9) (hw (.arrayClass .byte) (by decide +kernel))
  obtain ⟨cZ, hZ⟩ := q_ac (ty := .boolean) (fun _ h9 => h9) (hw (.arrayClass .boolean) (by decide +kernel))
  refine ⟨(fun k => [c0, c1, c2, c3, c4, c5, c6, c7, c8, c9, c10].getD k c0, fun k => [i0, i1, i2, i3, i4, i5, i6, i7, i8, i9, i10].getD k i0), cI, cB, cZ, ⟨?_, ?_⟩, q_N_law h⟩
  · intro k q hq
    match k, hq with
    | 0, hq => cases hq; exact k0
    | 1, hq => cases hq; exact k1
    | 2, hq => cases hq; exact k2
    | 3, hq => cases hq; exact k3
    | 4, hq => cases hq; exact k4
    | 5, hq => cases hq; exact k5
    | 6, hq => cases hq; exact k6
    | 7, hq => cases hq; exact k7
    | 8, hq => cases hq; exact k8
    | 9, hq => cases hq; exact k9
    | 10, hq => cases hq; exact k10
    | k + 11, hq => simp at hq
  · intro k q hq
    match k, hq with
    | 0, hq => cases hq; exact hI
    | 1, hq => cases hq; exact hB
    | 2, hq => cases hq; exact hZ
    | k + 3, hq => simp at hq
section QL
variable {p : Program} {l : Launch} {e : Env} {R : Room} {s : State} {m : MethodId} {args : Array Value} {below : List Frame} {meth : Method} {c : Code} {H H0 : Heap} {locs : List Loc} {cells slots : Nat} {Q : State → Prop} {cc : ByteArray} {rest : List Value} {pc : Nat} {ls : Array Slot} {A : Nat → Prop}
/-- an int of the script -/
theorem q_sld (hexec : p.tables.exec = Jvm.exec) (hb : c.code = cc) {b L k : Nat} {xs : Nat → Int32} (hX : va_X b L xs s H0) (hbl : b < H0.size) (hbA : ¬ A b) (hS : va_S A H0 H locs) (hk : k < L) (hL : L ≤ 2048) (hdg : decode cc pc = .ok (.iaload, 1))
    (kk : W p l e R s m args below meth c H locs cells slots Q (F0 m (pc + 1) ls (.int (xs k) :: rest))) : W p l e R s m args below meth c H locs cells slots Q (F0 m pc ls (.int (nI k) :: .ref b :: rest)) :=
  va_sld hexec hb hX hbl hbA hS (vp_in_nI hk (by omega)) hdg (by rw [nI_clamp (by omega)]; exact kk)
end QL
theorem q_len {L i : Nat} (hL : L ≤ 2048) (hi : i ≤ 4096) : nI L - nI 4 < nI i ↔ L < i + 4 := by
  by_cases h : 4 ≤ L
  · rw [q_sub h, nI_ltI (by omega) (by omega)]; omega
  · have h2 : ∀ L, L < 4 → (nI L - nI 4).toInt < 0 := by decide
    have h3 := h2 L (by omega)
    rw [Int32.lt_iff_toInt_lt, nI_toInt (n := i) (by omega)]
    omega
def q_V (a b : Int32) : Int64 := (a.toInt64 <<< ((nI 32).toInt64 &&& 63)) ||| (b.toInt64 &&& (4294967295 : Int64))
/-! what a call leaves keeps the bounds -/
theorem q_Mi_less {mo n u v : Nat} {O : Nat → Nat} {Q : Nat → Nat → Nat} {rw1 : Nat → Int32} (h : q_Mi mo n u O Q rw1) (hv : v ≤ u) : q_Mi mo n v O Q rw1 := ⟨by have := h.1; omega, fun j hj => h.2 j (by omega)⟩
theorem q_Tx00 {tn : Nat} {tf : Nat → Nat} {f : Nat → Int32} (_ : q_Tx tn tf f) : q_Tx 0 tf f := ⟨Nat.zero_le _, fun j hj => absurd hj (Nat.not_lt_zero _)⟩
theorem q_Tm00 {tn : Nat} {tf : Nat → Nat} {f : Nat → Int32} (_ : q_Tm tn tf f) : q_Tm 0 tf f := ⟨Nat.zero_le _, fun j hj => absurd hj (Nat.not_lt_zero _)⟩
theorem q_Sg00 {sc : Nat} {SP SO : Nat → Nat} {SB : Nat → Bool} {a b c : Nat → Int32} (_ : q_Sg sc SP SO SB a b c) : q_Sg 0 SP SO SB a b c := ⟨Nat.zero_le _, fun j hj => absurd hj (Nat.not_lt_zero _)⟩
theorem q_bo_lt {T : Nat → Nat → Nat} {n ow : Nat} {P : Nat → Nat} {w : Int32} (how : ow < 2 ^ n) : q_bo T n ow P w < 2 ^ n := by
  unfold q_bo
  cases h : q_bok T n ow P w with
  | none => exact how
  | some S =>
    refine Nat.or_lt_two_pow how ?_
    unfold q_bok at h
    cases hx : q_ix (2 ^ n) w with
    | none => rw [hx] at h; cases h
    | some S' =>
      rw [hx] at h
      have h' : (if S' = 0 then none else if ow &&& S' = 0 ∧ q_cp T n ow P S' n = true then some S' else none) = some S := h
      by_cases h0 : S' = 0
      · rw [if_pos h0] at h'; cases h'
      · rw [if_neg h0] at h'
        by_cases h1 : ow &&& S' = 0 ∧ q_cp T n ow P S' n = true
        · rw [if_pos h1] at h'; cases h'; exact (q_ixS hx).2
        · rw [if_neg h1] at h'; cases h'
theorem q_to_lt {n ow : Nat} {w : Int32} (how : ow < 2 ^ n) : q_to n ow w < 2 ^ n := by
  unfold q_to
  split
  · exact how
  · exact Nat.lt_of_le_of_lt (q_nd_le _ _) how
theorem q_sok_lt {T : Nat → Nat → Nat} {n ow : Nat} {P : Nat → Nat} {w v : Int32} {x : Nat × Nat} (h : q_sok T n ow P w v = some x) : x.1 < n ∧ x.2 < n := by
  unfold q_sok at h
  cases hx : q_ix n w with
  | none => rw [hx] at h; cases h
  | some i =>
    rw [hx] at h
    cases hy : q_ix n v with
    | none => rw [hy] at h; cases h
    | some j =>
      rw [hy] at h
      have h' : (if i = j then none else if ow.testBit i = true ∧ ow.testBit j = false ∧ q_oth T n j (q_nd ow (2 ^ i)) ≤ P j then some (i, j) else none) = some x := h
      by_cases h0 : i = j
      · rw [if_pos h0] at h'; cases h'
      · rw [if_neg h0] at h'
        by_cases h1 : ow.testBit i = true ∧ ow.testBit j = false ∧ q_oth T n j (q_nd ow (2 ^ i)) ≤ P j
        · rw [if_pos h1] at h'; cases h'; exact ⟨(q_ixS hx).2, (q_ixS hy).2⟩
        · rw [if_neg h1] at h'; cases h'
theorem q_so_lt {T : Nat → Nat → Nat} {n ow : Nat} {P : Nat → Nat} {w v : Int32} (how : ow < 2 ^ n) : q_so T n ow P w v < 2 ^ n := by
  unfold q_so
  cases h : q_sok T n ow P w v with
  | none => exact how
  | some x => exact Nat.or_lt_two_pow (Nat.lt_of_le_of_lt (q_nd_le _ _) how) (Nat.pow_lt_pow_right (by decide) (q_sok_lt h).2)
theorem q_po_lt {mo n u ow : Nat} {O : Nat → Nat} {Q : Nat → Nat → Nat} {f : Nat → Int32} (how : ow < 2 ^ n) (h : q_Pi mo n u O Q f) : q_po u O ow < 2 ^ n := by
  unfold q_po
  by_cases h0 : u = 0
  · rw [if_pos h0]; exact how
  · rw [if_neg h0]; exact (h.2 (u - 1) (by omega)).1
theorem q_bP_le {T : Nat → Nat → Nat} {n ow bd : Nat} {P : Nat → Nat} {w : Int32} (h : ∀ i, i < n → P i ≤ bd) : ∀ i, i < n → q_bP T n ow P w i ≤ bd + 8 := by
  intro i hi
  have h1 := h i hi
  unfold q_bP
  cases q_bok T n ow P w with
  | none => show P i ≤ bd + 8; omega
  | some S =>
    show (if S.testBit i then P i - q_oth T n i (ow ||| S) else P i) ≤ bd + 8
    split <;> omega
theorem q_sP_le {T : Nat → Nat → Nat} {n ow bd : Nat} {P : Nat → Nat} {w v : Int32} (h : ∀ i, i < n → P i ≤ bd) : ∀ i, i < n → q_sP T n ow P w v i ≤ bd + 8 := by
  intro i hi
  have h1 := h i hi
  unfold q_sP
  cases q_sok T n ow P w v with
  | none => show P i ≤ bd + 8; omega
  | some x =>
    show (if i = x.1 then P i + q_oth T n x.2 (q_nd ow (2 ^ x.1)) else if i = x.2 then P i - q_oth T n x.2 (q_nd ow (2 ^ x.1)) else P i) ≤ bd + 8
    have := q_oth_le T n x.2 (q_nd ow (2 ^ x.1))
    split
    · omega
    · split <;> omega
theorem q_pP_le {n u bd : Nat} {Q : Nat → Nat → Nat} {P : Nat → Nat} (h : ∀ i, i < n → P i ≤ bd) (hQ : ∀ j, j < u → ∀ i, i < n → Q j i ≤ bd) : ∀ i, i < n → q_pP u Q P i ≤ bd + 8 := by
  intro i hi
  have h1 := h i hi
  unfold q_pP
  by_cases h0 : u = 0
  · rw [if_pos h0]; omega
  · rw [if_neg h0]; have := hQ (u - 1) (by omega) i hi; omega
theorem q_pQ_le {mo n u bd : Nat} {Q : Nat → Nat → Nat} {P : Nat → Nat} (hu : u ≤ mo) (h : ∀ i, i < n → P i ≤ bd) (hQ : ∀ j, j < u → ∀ i, i < n → Q j i ≤ bd) (hmo : 0 < mo) : ∀ j, j < q_pb mo u + 1 → ∀ i, i < n → q_pQ mo u Q P j i ≤ bd + 8 := by
  intro j hj i hi
  have h1 := h i hi
  unfold q_pb at hj
  unfold q_pQ q_pb
  by_cases c : u < mo
  · rw [if_pos c] at hj ⊢
    by_cases e : j = u
    · rw [if_pos e]; omega
    · rw [if_neg e, if_pos c]; have := hQ j (by omega) i hi; omega
  · rw [if_neg c] at hj ⊢
    by_cases e : j = mo - 1
    · rw [if_pos e]; omega
    · rw [if_neg e, if_neg c]; have := hQ (j + 1) (by omega) i hi; omega
theorem q_uQ_le {ok : Bool} {n u bd : Nat} {Q : Nat → Nat → Nat} {P : Nat → Nat} (hu : u ≤ 8) (h : ∀ i, i < n → P i ≤ bd) (hQ : ∀ j, j < u → ∀ i, i < n → Q j i ≤ bd) : ∀ j, j < q_uu ok u → ∀ i, i < n → q_uQ ok u Q P j i ≤ bd + 8 := by
  cases ok with
  | true => exact q_pQ_le hu h hQ (by decide)
  | false => intro j hj i hi; have := hQ j hj i hi; show Q j i ≤ bd + 8; omega
theorem q_kQ_le {n u bd : Nat} {Q : Nat → Nat → Nat} {P : Nat → Nat} (hu : u ≤ 2) (h : ∀ i, i < n → P i ≤ bd) (hQ : ∀ j, j < u → ∀ i, i < n → Q j i ≤ bd) : ∀ j, j < q_kc u → ∀ i, i < n → q_kQ u Q P j i ≤ bd + 8 := by
  intro j hj i hi
  unfold q_kc at hj
  unfold q_kQ
  by_cases c : u < 2
  · rw [if_pos c] at hj ⊢
    exact q_pQ_le hu h hQ (by decide) j (by unfold q_pb; rw [if_pos c]; exact hj) i hi
  · rw [if_neg c] at hj ⊢
    have := hQ j hj i hi; omega
theorem q_less8 {n u v bd : Nat} {Q : Nat → Nat → Nat} (hQ : ∀ j, j < u → ∀ i, i < n → Q j i ≤ bd) (hv : v ≤ u) : ∀ j, j < v → ∀ i, i < n → Q j i ≤ bd + 8 := fun j hj i hi => by have := hQ j (by omega) i hi; omega
theorem q_bu_le (kc u : Nat) : q_bu kc u ≤ u := by unfold q_bu; split <;> omega
-- laid
theorem q_lPi {tn : Nat} {tf : Nat → Nat} {mo n u : Nat} {O : Nat → Nat} {Q : Nat → Nat → Nat} {f : Nat → Int32} (h : q_Pi mo n u O Q f) : q_Pi mo (q_ln tn tf n) (q_lz tn tf u) O Q f := by
  unfold q_ln q_lz
  cases q_lok tn tf with
  | true => exact ⟨Nat.zero_le _, fun j hj => absurd hj (Nat.not_lt_zero _)⟩
  | false => exact h
theorem q_lMi {tn : Nat} {tf : Nat → Nat} {mo n u : Nat} {O : Nat → Nat} {Q : Nat → Nat → Nat} {f : Nat → Int32} (h : q_Mi mo n u O Q f) : q_Mi mo (q_ln tn tf n) (q_lz tn tf u) O Q f := by
  unfold q_ln q_lz
  cases q_lok tn tf with
  | true => exact ⟨Nat.zero_le _, fun j hj => absurd hj (Nat.not_lt_zero _)⟩
  | false => exact h
theorem q_lSg {tn : Nat} {tf : Nat → Nat} {sc : Nat} {SP SO : Nat → Nat} {SB : Nat → Bool} {a b c : Nat → Int32} (h : q_Sg sc SP SO SB a b c) : q_Sg (q_lz tn tf sc) SP SO SB a b c := by
  unfold q_lz
  cases q_lok tn tf with
  | true => exact q_Sg00 h
  | false => exact h
theorem q_lP_le {tn : Nat} {tf : Nat → Nat} {n bd : Nat} {P : Nat → Nat} (hb : 99 ≤ bd) (h : ∀ i, i < n → P i ≤ bd) : ∀ i, i < q_ln tn tf n → q_lP tn tf P i ≤ bd + 8 := by
  unfold q_ln q_lP
  cases q_lok tn tf with
  | true =>
    intro i hi
    have h2 := ((q_fl_B tn tf).2.1.2 i hi).2.2.2.2
    show (q_fl tn tf).2.2.1 i 4 ≤ bd + 8
    omega
  | false => intro i hi; have := h i hi; show P i ≤ bd + 8; omega
theorem q_lQ_le {tn : Nat} {tf : Nat → Nat} {n u bd : Nat} {Q : Nat → Nat → Nat} (h : ∀ j, j < u → ∀ i, i < n → Q j i ≤ bd) : ∀ j, j < q_lz tn tf u → ∀ i, i < q_ln tn tf n → Q j i ≤ bd + 8 := by
  unfold q_ln q_lz
  cases q_lok tn tf with
  | true => intro j hj; exact absurd hj (Nat.not_lt_zero _)
  | false => intro j hj i hi; have := h j hj i hi; omega
