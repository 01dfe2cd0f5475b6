set_option maxHeartbeats 4000000 in
set_option maxRecDepth 100000 in
theorem c_X9_isPerson (l : Launch) {D : va_G} {cI cB cZ : ClassId} {xa : Nat} {tx : Nat} {rd : Nat} {tl : Nat} {hm : Nat} {hc : Nat} {hx0 : Nat} {hn : Nat} {un : Nat} {kp : Nat} {sg : Nat} {hp : Nat} {hh : Nat} {ht : Nat} {n : Nat} {fo : Int32} {ss : Int32} {w : Int32} (hn9 : n < 2147483648) : Met l yX9_isPerson wsX9_isPerson ({ frames := 0, cells := 0, slots := 0, locals := 0 } : Room) (va_Pc [.ref xa, .int w] (q_B D (q_tys cI cB cZ) [(xa, .inr (9, [.ref tx, .ref rd, .ref tl, .ref hm, .ref hc, .ref hx0, .ref hn, .ref un, .ref kp, .ref sg])), (hm, .inr (3, [.ref hp, .ref hh])), (hp, .inr (4, [.ref ht, .int (nI n), .int fo, .int ss]))])) (vp_Si (fun r => r = bI ((q_ix n w).isSome))) 0 0 (fun _ => False) := by
  refine Met.ofW (cc := cX9_isPerson) (maxL := 2) (ret := (some .boolean)) (by decide) rfl ?_
  intro p e s m args below meth c s₁ B hml hv
  obtain ⟨rfl, hP, hK⟩ := hv
  have hx := B.exec
  have hb := B.bytes
  have hr := B.returns
  have hts := atoms_spec (ws := wsX9_isPerson) B.pre
  have hown : s.vm.findClass RX9 = some m.cls := findClass_of_methodNamed B.named
  have hlocks := B.notSynchronized
  have hin3 : ∀ w ∈ u_ws RX3 TX3 2, w ∈ wsX9_isPerson := by decide +kernel
  have hin4 : ∀ w ∈ u_ws RX4 TX4 4, w ∈ wsX9_isPerson := by decide +kernel
  have hin9 : ∀ w ∈ u_ws RX9 TX9 10, w ∈ wsX9_isPerson := by decide +kernel
  have hP : va_P D vwCl [(xa, .inr (9, [.ref tx, .ref rd, .ref tl, .ref hm, .ref hc, .ref hx0, .ref hn, .ref un, .ref kp, .ref sg])), (hm, .inr (3, [.ref hp, .ref hh])), (hp, .inr (4, [.ref ht, .int (nI n), .int fo, .int ss]))] s.heap := hP
  have hl := lv_entry ([.ref xa, .int w]) (n := 2) (Nat.le_of_ble_eq_true rfl)
  rw [lg_entry_eq]
  generalize (lg_sl ([.ref xa, .int w]) ++ List.replicate (2 - (lg_sl ([.ref xa, .int w])).length) Slot.unset).toArray = ls at hl ⊢
  have hl : lv_has ls 2 [(0, .ref xa), (1, .int w)] := hl
  refine lv_iload_n hx hb dX9_isPerson_0 rfl (lv_at hl 1 rfl) ?_
  refine lv_if_lt (x := w) (tgt := 22) hx hb dX9_isPerson_1 (by decide) (fun c_1 => ?_) (fun c_1 => ?_)
  · refine lv_iconst (v := nI 0) hx hb dX9_isPerson_22 (by decide) ?_
    exact q_zret (v := nI 0) hx hb hr hlocks (q_nar0) (show nI 0 = bI ((q_ix n w).isSome) from by rw [q_ix_lt c_1]; rfl) dX9_isPerson_23
  · refine lv_iload_n hx hb dX9_isPerson_4 rfl (lv_at hl 1 rfl) ?_
    refine lv_aload_n hx hb dX9_isPerson_5 rfl (lv_at hl 0 rfl) ?_
    refine q_get (ci := 9) (CC := RX9) (T := TX9) (N := 10) (v := .ref hm) hx hb hts hin9 hown hK hP 0 rfl rfl 3 (by decide) (hts (.fieldLink RX9 33 "DearAsMany" "market" "LDearAsMany$Market;") (by decide +kernel)) rfl rfl dX9_isPerson_6 ?_
    refine q_get (ci := 3) (CC := RX3) (T := TX3) (N := 2) (v := .ref hp) hx hb hts hin3 hown hK hP 1 rfl rfl 0 (by decide) (hts (.fieldLink RX9 108 "DearAsMany$Market" "people" "LDearAsMany$People;") (by decide +kernel)) rfl rfl dX9_isPerson_9 ?_
    refine q_get (ci := 4) (CC := RX4) (T := TX4) (N := 4) (v := .int (nI n)) hx hb hts hin4 hown hK hP 2 rfl rfl 1 (by decide) (hts (.fieldLink RX9 105 "DearAsMany$People" "size" "I") (by decide +kernel)) rfl rfl dX9_isPerson_12 ?_
    refine lv_icmp_ge (x := w) (y := nI n) (tgt := 22) hx hb dX9_isPerson_15 (by decide) (fun c_15 => ?_) (fun c_15 => ?_)
    · refine lv_iconst (v := nI 0) hx hb dX9_isPerson_22 (by decide) ?_
      exact q_zret (v := nI 0) hx hb hr hlocks (q_nar0) (show nI 0 = bI ((q_ix n w).isSome) from by rw [q_ix_ge hn9 c_15]; rfl) dX9_isPerson_23
    · refine lv_iconst (v := nI 1) hx hb dX9_isPerson_18 (by decide) ?_
      refine lv_goto (tgt := 23) hx hb dX9_isPerson_19 (by decide) ?_
      exact q_zret (v := nI 1) hx hb hr hlocks (q_nar1) (show nI 1 = bI ((q_ix n w).isSome) from by rw [q_ix_in hn9 c_1 c_15]; rfl) dX9_isPerson_23

set_option maxHeartbeats 4000000 in
set_option maxRecDepth 100000 in
theorem c_X9_isSet (l : Launch) {D : va_G} {cI cB cZ : ClassId} {xa : Nat} {tx : Nat} {rd : Nat} {tl : Nat} {hm : Nat} {hc : Nat} {hx0 : Nat} {hn : Nat} {un : Nat} {kp : Nat} {sg : Nat} {hp : Nat} {hh : Nat} {ht : Nat} {n : Nat} {fo : Int32} {ss : Int32} {w : Int32} (hn9 : n < 31 ∧ 2 ^ n < 2147483648) : Met l yX9_isSet wsX9_isSet ({ frames := 1, cells := 0, slots := 0, locals := 20 } : Room) (va_Pc [.ref xa, .int w] (q_B D (q_tys cI cB cZ) [(xa, .inr (9, [.ref tx, .ref rd, .ref tl, .ref hm, .ref hc, .ref hx0, .ref hn, .ref un, .ref kp, .ref sg])), (hm, .inr (3, [.ref hp, .ref hh])), (hp, .inr (4, [.ref ht, .int (nI n), .int fo, .int ss]))])) (vp_Si (fun r => r = bI ((q_ix (2 ^ n) w).isSome))) 0 0 (fun _ => False) := by
  refine Met.ofW (cc := cX9_isSet) (maxL := 2) (ret := (some .boolean)) (by decide) rfl ?_
  intro p e s m args below meth c s₁ B hml hv
  obtain ⟨rfl, hP, hK⟩ := hv
  have hx := B.exec
  have hb := B.bytes
  have hr := B.returns
  have hts := atoms_spec (ws := wsX9_isSet) B.pre
  have hown : s.vm.findClass RX9 = some m.cls := findClass_of_methodNamed B.named
  have hlocks := B.notSynchronized
  have hin3 : ∀ w ∈ u_ws RX3 TX3 2, w ∈ wsX9_isSet := by decide +kernel
  have hin9 : ∀ w ∈ u_ws RX9 TX9 10, w ∈ wsX9_isSet := by decide +kernel
  have hP : va_P D vwCl [(xa, .inr (9, [.ref tx, .ref rd, .ref tl, .ref hm, .ref hc, .ref hx0, .ref hn, .ref un, .ref kp, .ref sg])), (hm, .inr (3, [.ref hp, .ref hh])), (hp, .inr (4, [.ref ht, .int (nI n), .int fo, .int ss]))] s.heap := hP
  have hl := lv_entry ([.ref xa, .int w]) (n := 2) (Nat.le_of_ble_eq_true rfl)
  rw [lg_entry_eq]
  generalize (lg_sl ([.ref xa, .int w]) ++ List.replicate (2 - (lg_sl ([.ref xa, .int w])).length) Slot.unset).toArray = ls at hl ⊢
  have hl : lv_has ls 2 [(0, .ref xa), (1, .int w)] := hl
  refine lv_iload_n hx hb dX9_isSet_0 rfl (lv_at hl 1 rfl) ?_
  refine lv_if_lt (x := w) (tgt := 22) hx hb dX9_isSet_1 (by decide) (fun c_1 => ?_) (fun c_1 => ?_)
  · refine lv_iconst (v := nI 0) hx hb dX9_isSet_22 (by decide) ?_
    exact q_zret (v := nI 0) hx hb hr hlocks (q_nar0) (show nI 0 = bI ((q_ix (2 ^ n) w).isSome) from by rw [q_ix_lt c_1]; rfl) dX9_isSet_23
  · refine lv_iload_n hx hb dX9_isSet_4 rfl (lv_at hl 1 rfl) ?_
    refine lv_aload_n hx hb dX9_isSet_5 rfl (lv_at hl 0 rfl) ?_
    refine q_get (ci := 9) (CC := RX9) (T := TX9) (N := 10) (v := .ref hm) hx hb hts hin9 hown hK hP 0 rfl rfl 3 (by decide) (hts (.fieldLink RX9 33 "DearAsMany" "market" "LDearAsMany$Market;") (by decide +kernel)) rfl rfl dX9_isSet_6 ?_
    refine q_get (ci := 3) (CC := RX3) (T := TX3) (N := 2) (v := .ref hp) hx hb hts hin3 hown hK hP 1 rfl rfl 0 (by decide) (hts (.fieldLink RX9 108 "DearAsMany$Market" "people" "LDearAsMany$People;") (by decide +kernel)) rfl rfl dX9_isSet_9 ?_
    refine q_vi (As := []) (rest := [.int w]) ⟨hx, hb, hml, hown, hts⟩ (c_X4_sets l (D := D) (cI := cI) (cB := cB) (cZ := cZ) (hp := hp) (ht := ht) (n := n) (fo := fo) (ss := ss) (hn9.1)) (cwV 0 hts gX9_isSet_X4_sets rfl rfl rfl (by decide +kernel) ⟨Nat.le_of_ble_eq_true rfl, Nat.le_of_ble_eq_true rfl⟩) hK hP [2] rfl 2 4 rfl rfl rfl rfl hl.1 rfl (Nat.le_of_ble_eq_true rfl) dX9_isSet_12 ⟨Nat.zero_le _, Nat.zero_le _⟩ (fun r_12 hr_12 => ?_)
    have hr_12 : nI (2 ^ n) = r_12 := (show r_12 = nI (2 ^ n) from hr_12).symm
    subst hr_12
    refine lv_icmp_ge (x := w) (y := nI (2 ^ n)) (tgt := 22) hx hb dX9_isSet_15 (by decide) (fun c_15 => ?_) (fun c_15 => ?_)
    · refine lv_iconst (v := nI 0) hx hb dX9_isSet_22 (by decide) ?_
      exact q_zret (v := nI 0) hx hb hr hlocks (q_nar0) (show nI 0 = bI ((q_ix (2 ^ n) w).isSome) from by rw [q_ix_ge hn9.2 c_15]; rfl) dX9_isSet_23
    · refine lv_iconst (v := nI 1) hx hb dX9_isSet_18 (by decide) ?_
      refine lv_goto (tgt := 23) hx hb dX9_isSet_19 (by decide) ?_
      exact q_zret (v := nI 1) hx hb hr hlocks (q_nar1) (show nI 1 = bI ((q_ix (2 ^ n) w).isSome) from by rw [q_ix_in hn9.2 c_1 c_15]; rfl) dX9_isSet_23

set_option maxHeartbeats 4000000 in
set_option maxRecDepth 100000 in
theorem c_X9_season (l : Launch) {D : va_G} {cI cB cZ : ClassId} {xa : Nat} {tx : Nat} {rd : Nat} {tl : Nat} {hm : Nat} {hc : Nat} {hx0 : Nat} {hn : Nat} {un : Nat} {kp : Nat} {sg : Nat} {hp : Nat} {hh : Nat} {ht : Nat} {n : Nat} {fo : Int32} {ss : Int32} : Met l yX9_season wsX9_season ({ frames := 0, cells := 0, slots := 0, locals := 0 } : Room) (va_Pc [.ref xa] (q_B D (q_tys cI cB cZ) [(xa, .inr (9, [.ref tx, .ref rd, .ref tl, .ref hm, .ref hc, .ref hx0, .ref hn, .ref un, .ref kp, .ref sg])), (hm, .inr (3, [.ref hp, .ref hh])), (hp, .inr (4, [.ref ht, .int (nI n), .int fo, .int ss]))])) (vp_Si (fun r => r = ss)) 0 0 (fun _ => False) := by
  refine Met.ofW (cc := cX9_season) (maxL := 1) (ret := (some .int)) (by decide) rfl ?_
  intro p e s m args below meth c s₁ B hml hv
  obtain ⟨rfl, hP, hK⟩ := hv
  have hx := B.exec
  have hb := B.bytes
  have hr := B.returns
  have hts := atoms_spec (ws := wsX9_season) B.pre
  have hown : s.vm.findClass RX9 = some m.cls := findClass_of_methodNamed B.named
  have hlocks := B.notSynchronized
  have hin3 : ∀ w ∈ u_ws RX3 TX3 2, w ∈ wsX9_season := by decide +kernel
  have hin4 : ∀ w ∈ u_ws RX4 TX4 4, w ∈ wsX9_season := by decide +kernel
  have hin9 : ∀ w ∈ u_ws RX9 TX9 10, w ∈ wsX9_season := by decide +kernel
  have hP : va_P D vwCl [(xa, .inr (9, [.ref tx, .ref rd, .ref tl, .ref hm, .ref hc, .ref hx0, .ref hn, .ref un, .ref kp, .ref sg])), (hm, .inr (3, [.ref hp, .ref hh])), (hp, .inr (4, [.ref ht, .int (nI n), .int fo, .int ss]))] s.heap := hP
  have hl := lv_entry ([.ref xa]) (n := 1) (Nat.le_of_ble_eq_true rfl)
  rw [lg_entry_eq]
  generalize (lg_sl ([.ref xa]) ++ List.replicate (1 - (lg_sl ([.ref xa])).length) Slot.unset).toArray = ls at hl ⊢
  have hl : lv_has ls 1 [(0, .ref xa)] := hl
  refine lv_aload_n hx hb dX9_season_0 rfl (lv_at hl 0 rfl) ?_
  refine q_get (ci := 9) (CC := RX9) (T := TX9) (N := 10) (v := .ref hm) hx hb hts hin9 hown hK hP 0 rfl rfl 3 (by decide) (hts (.fieldLink RX9 33 "DearAsMany" "market" "LDearAsMany$Market;") (by decide +kernel)) rfl rfl dX9_season_1 ?_
  refine q_get (ci := 3) (CC := RX3) (T := TX3) (N := 2) (v := .ref hp) hx hb hts hin3 hown hK hP 1 rfl rfl 0 (by decide) (hts (.fieldLink RX9 108 "DearAsMany$Market" "people" "LDearAsMany$People;") (by decide +kernel)) rfl rfl dX9_season_4 ?_
  refine q_get (ci := 4) (CC := RX4) (T := TX4) (N := 4) (v := .int ss) hx hb hts hin4 hown hK hP 2 rfl rfl 3 (by decide) (hts (.fieldLink RX9 233 "DearAsMany$People" "season" "I") (by decide +kernel)) rfl rfl dX9_season_7 ?_
  exact q_zret (v := ss) hx hb hr hlocks (rfl) (show ss = ss from rfl) dX9_season_10

set_option maxHeartbeats 4000000 in
set_option maxRecDepth 100000 in
theorem c_X9_canPay (l : Launch) {D : va_G} {cI cB cZ : ClassId} {xa : Nat} {tx : Nat} {rd : Nat} {tl : Nat} {hm : Nat} {hc : Nat} {hx0 : Nat} {hn : Nat} {un : Nat} {kp : Nat} {sg : Nat} {hp : Nat} {hh : Nat} {ht : Nat} {n : Nat} {fo : Int32} {ss : Int32} {tr : Nat → Int32} {hom : Nat → Int32} {T : Nat → Nat → Nat} {hq : Nat} {ow : Nat} {pn : Nat → Int32} {P : Nat → Nat} {S : Nat} (hT : q_Tr T n tr) (hB : q_Bd T n) (hH : q_Hm T n hom) (how : ow < 2 ^ n) (hPn : ∀ i, i < n → pn i = nI (P i)) (hPb : ∀ i, i < n → P i < 2147483648) (hS : S < 2 ^ n) : Met l yX9_canPay wsX9_canPay ({ frames := 2, cells := 0, slots := 0, locals := 45 } : Room) (va_Pc [.ref xa, .int (nI S)] (q_B D (q_tys cI cB cZ) [(xa, .inr (9, [.ref tx, .ref rd, .ref tl, .ref hm, .ref hc, .ref hx0, .ref hn, .ref un, .ref kp, .ref sg])), (hm, .inr (3, [.ref hp, .ref hh])), (hp, .inr (4, [.ref ht, .int (nI n), .int fo, .int ss])), (ht, .inl (cI, 35, .inl tr)), (hh, .inl (cI, 128, .inl hom)), (hn, .inr (2, [.ref hq, .int (nI ow)])), (hq, .inl (cI, 7, .inl pn))])) (vp_Si (fun r => r = bI (q_cp T n ow P S n))) 0 0 (fun _ => False) := by
  refine Met.ofW (cc := cX9_canPay) (maxL := 3) (ret := (some .boolean)) (by decide) rfl ?_
  intro p e s m args below meth c s₁ B hml hv
  obtain ⟨rfl, hP, hK⟩ := hv
  have hx := B.exec
  have hb := B.bytes
  have hr := B.returns
  have hts := atoms_spec (ws := wsX9_canPay) B.pre
  have hown : s.vm.findClass RX9 = some m.cls := findClass_of_methodNamed B.named
  have hlocks := B.notSynchronized
  have hin2 : ∀ w ∈ u_ws RX2 TX2 2, w ∈ wsX9_canPay := by decide +kernel
  have hin3 : ∀ w ∈ u_ws RX3 TX3 2, w ∈ wsX9_canPay := by decide +kernel
  have hin4 : ∀ w ∈ u_ws RX4 TX4 4, w ∈ wsX9_canPay := by decide +kernel
  have hin9 : ∀ w ∈ u_ws RX9 TX9 10, w ∈ wsX9_canPay := by decide +kernel
  have hP : va_P D vwCl [(xa, .inr (9, [.ref tx, .ref rd, .ref tl, .ref hm, .ref hc, .ref hx0, .ref hn, .ref un, .ref kp, .ref sg])), (hm, .inr (3, [.ref hp, .ref hh])), (hp, .inr (4, [.ref ht, .int (nI n), .int fo, .int ss])), (ht, .inl (cI, 35, .inl tr)), (hh, .inl (cI, 128, .inl hom)), (hn, .inr (2, [.ref hq, .int (nI ow)])), (hq, .inl (cI, 7, .inl pn))] s.heap := hP
  have hl := lv_entry ([.ref xa, .int (nI S)]) (n := 3) (Nat.le_of_ble_eq_true rfl)
  rw [lg_entry_eq]
  generalize (lg_sl ([.ref xa, .int (nI S)]) ++ List.replicate (3 - (lg_sl ([.ref xa, .int (nI S)])).length) Slot.unset).toArray = ls at hl ⊢
  have hl : lv_has ls 3 [(0, .ref xa), (1, .int (nI S))] := hl
  have hn7 := hB.1
  have hp2 : 2 ^ n ≤ 128 := q_p2 hB.1
  have ho128 := q_S128 hB how
  have hS128 := q_S128 hB hS
  have L2 : ∀ (fuel : Nat) (i : Nat) (hi : i ≤ n) (hcq : q_cp T n ow P S i = true) (hf : n - i < fuel) (ls : Array Slot) (hl : lv_has ls 3 [(0, .ref xa), (1, .int (nI S)), (2, .int (nI i))]), W p l e (headSpec wsX9_canPay ({ frames := 2, cells := 0, slots := 0, locals := 45 } : Room)).room s m ([.ref xa, .int (nI S)] : List Value).toArray below meth c s.heap [] 0 0 (MQ below (vp_Si (fun r => r = bI (q_cp T n ow P S n))) ([.ref xa, .int (nI S)] : List Value).toArray s 0 0 (fun _ => False)) (F0 m 2 ls []) := by
    intro fuel
    induction fuel with
    | zero =>
      intro i hi hcq hf ls hl
      exact absurd hf (Nat.not_lt_zero _)
    | succ fuel ih2 =>
      intro i hi hcq hf ls hl
      refine lv_iload_n hx hb dX9_canPay_2 rfl (lv_at hl 2 rfl) ?_
      refine lv_aload_n hx hb dX9_canPay_3 rfl (lv_at hl 0 rfl) ?_
      refine q_get (ci := 9) (CC := RX9) (T := TX9) (N := 10) (v := .ref hm) hx hb hts hin9 hown hK hP 0 rfl rfl 3 (by decide) (hts (.fieldLink RX9 33 "DearAsMany" "market" "LDearAsMany$Market;") (by decide +kernel)) rfl rfl dX9_canPay_4 ?_
      refine q_get (ci := 3) (CC := RX3) (T := TX3) (N := 2) (v := .ref hp) hx hb hts hin3 hown hK hP 1 rfl rfl 0 (by decide) (hts (.fieldLink RX9 108 "DearAsMany$Market" "people" "LDearAsMany$People;") (by decide +kernel)) rfl rfl dX9_canPay_7 ?_
      refine q_get (ci := 4) (CC := RX4) (T := TX4) (N := 4) (v := .int (nI n)) hx hb hts hin4 hown hK hP 2 rfl rfl 1 (by decide) (hts (.fieldLink RX9 105 "DearAsMany$People" "size" "I") (by decide +kernel)) rfl rfl dX9_canPay_10 ?_
      refine q_nge (tgt := 60) hx hb dX9_canPay_13 (by decide) (by omega) (by omega) (fun c_13 => ?_) (fun c_13 => ?_)
      · refine lv_iconst (v := nI 1) hx hb dX9_canPay_60 (by decide) ?_
        exact q_zret (v := nI 1) hx hb hr hlocks (q_nar1) (show nI 1 = bI (q_cp T n ow P S n) from by rw [q_cpEnd hcq (by omega)]; rfl) dX9_canPay_61
      · refine lv_iload_n hx hb dX9_canPay_16 rfl (lv_at hl 1 rfl) ?_
        refine lv_iload_n hx hb dX9_canPay_17 rfl (lv_at hl 2 rfl) ?_
        refine q_si (As := [.int (nI S), .int (nI i)]) (rest := []) ⟨hx, hb, hml, hown, hts⟩ (c_X9_has l (D := D) (cI := cI) (cB := cB) (cZ := cZ) (S := S) (i := i) (by omega) (by omega)) (va_cwS 2 hts gX9_canPay_X9_has rfl rfl rfl (by decide +kernel) ⟨Nat.le_of_ble_eq_true rfl, Nat.le_of_ble_eq_true rfl⟩) hK hP [] rfl rfl hl.1 rfl (Nat.le_of_ble_eq_true rfl) dX9_canPay_18 ⟨Nat.zero_le _, Nat.zero_le _⟩ (fun r_18 hr_18 => ?_)
        have hr_18 : bI (S.testBit i) = r_18 := (show r_18 = bI (S.testBit i) from hr_18).symm
        subst hr_18
        refine q_beq (tgt := 54) hx hb dX9_canPay_21 (by decide) (fun c_21 => ?_) (fun c_21 => ?_)
        · refine lv_iinc (v := nI (i + 1)) (lv' := [(2, .int (nI (i + 1))), (0, .ref xa), (1, .int (nI S))]) hx hb dX9_canPay_54 hl (k := 2) rfl (nI_add _ 1) (by decide) rfl (fun ls hl => ?_)
          refine lv_goto (tgt := 2) hx hb dX9_canPay_57 (by decide) ?_
          exact ih2 (i + 1) (by omega) (q_cpS1 hcq c_21) (by omega) ls (lv_sub hl [1, 2, 0] rfl)
        · refine lv_aload_n hx hb dX9_canPay_24 rfl (lv_at hl 0 rfl) ?_
          refine q_get (ci := 9) (CC := RX9) (T := TX9) (N := 10) (v := .ref hn) hx hb hts hin9 hown hK hP 0 rfl rfl 6 (by decide) (hts (.fieldLink RX9 56 "DearAsMany" "now" "LDearAsMany$Holding;") (by decide +kernel)) rfl rfl dX9_canPay_25 ?_
          refine lv_iload_n hx hb dX9_canPay_28 rfl (lv_at hl 2 rfl) ?_
          refine q_vi (As := [.int (nI i)]) (rest := []) ⟨hx, hb, hml, hown, hts⟩ (c_X2_penniesOf l (D := D) (cI := cI) (cB := cB) (cZ := cZ) (hn := hn) (hq := hq) (i := i) (ow := nI ow) (pn := pn) (by omega)) (cwV 1 hts gX9_canPay_X2_penniesOf rfl rfl rfl (by decide +kernel) ⟨Nat.le_of_ble_eq_true rfl, Nat.le_of_ble_eq_true rfl⟩) hK hP [5, 6] rfl 5 2 rfl rfl rfl rfl hl.1 rfl (Nat.le_of_ble_eq_true rfl) dX9_canPay_29 ⟨Nat.zero_le _, Nat.zero_le _⟩ (fun r_29 hr_29 => ?_)
          have hr_29 : nI (P i) = r_29 := (Eq.trans (show r_29 = pn i from hr_29) (hPn i (by omega))).symm
          subst hr_29
          refine lv_aload_n hx hb dX9_canPay_32 rfl (lv_at hl 0 rfl) ?_
          refine q_get (ci := 9) (CC := RX9) (T := TX9) (N := 10) (v := .ref hm) hx hb hts hin9 hown hK hP 0 rfl rfl 3 (by decide) (hts (.fieldLink RX9 33 "DearAsMany" "market" "LDearAsMany$Market;") (by decide +kernel)) rfl rfl dX9_canPay_33 ?_
          refine lv_iload_n hx hb dX9_canPay_36 rfl (lv_at hl 2 rfl) ?_
          refine lv_aload_n hx hb dX9_canPay_37 rfl (lv_at hl 0 rfl) ?_
          refine q_get (ci := 9) (CC := RX9) (T := TX9) (N := 10) (v := .ref hn) hx hb hts hin9 hown hK hP 0 rfl rfl 6 (by decide) (hts (.fieldLink RX9 56 "DearAsMany" "now" "LDearAsMany$Holding;") (by decide +kernel)) rfl rfl dX9_canPay_38 ?_
          refine q_get (ci := 2) (CC := RX2) (T := TX2) (N := 2) (v := .int (nI ow)) hx hb hts hin2 hown hK hP 5 rfl rfl 1 (by decide) (hts (.fieldLink RX9 135 "DearAsMany$Holding" "owners" "I") (by decide +kernel)) rfl rfl dX9_canPay_41 ?_
          refine lv_iload_n hx hb dX9_canPay_44 rfl (lv_at hl 1 rfl) ?_
          refine q_ior (v := nI (ow ||| S)) hx hb dX9_canPay_45 (q_or _ _) ?_
          refine q_vi (As := [.int (nI i), .int (nI (ow ||| S))]) (rest := [.int (nI (P i))]) ⟨hx, hb, hml, hown, hts⟩ (c_X3_othersOf l (D := D) (cI := cI) (cB := cB) (cZ := cZ) (hm := hm) (hp := hp) (hh := hh) (ht := ht) (n := n) (fo := fo) (ss := ss) (tr := tr) (hom := hom) (T := T) (i := i) (S := ow ||| S) (by first | assumption | exact Nat.zero_le _ | omega) (by first | assumption | exact Nat.zero_le _ | omega) (by first | assumption | exact Nat.zero_le _ | omega) (by omega) (Nat.or_lt_two_pow how hS)) (cwV 2 hts gX9_canPay_X3_othersOf rfl rfl rfl (by decide +kernel) ⟨Nat.le_of_ble_eq_true rfl, Nat.le_of_ble_eq_true rfl⟩) hK hP [1, 2, 3, 4] rfl 1 3 rfl rfl rfl rfl hl.1 rfl (Nat.le_of_ble_eq_true rfl) dX9_canPay_46 ⟨Nat.zero_le _, Nat.zero_le _⟩ (fun r_46 hr_46 => ?_)
          have hr_46 : nI (q_oth T n i (ow ||| S)) = r_46 := (show r_46 = nI (q_oth T n i (ow ||| S)) from hr_46).symm
          subst hr_46
          refine q_nge (tgt := 54) hx hb dX9_canPay_49 (by decide) (hPb i (by omega)) (by have := q_oth_le T n i (ow ||| S); omega) (fun c_49 => ?_) (fun c_49 => ?_)
          · refine lv_iinc (v := nI (i + 1)) (lv' := [(2, .int (nI (i + 1))), (0, .ref xa), (1, .int (nI S))]) hx hb dX9_canPay_54 hl (k := 2) rfl (nI_add _ 1) (by decide) rfl (fun ls hl => ?_)
            refine lv_goto (tgt := 2) hx hb dX9_canPay_57 (by decide) ?_
            exact ih2 (i + 1) (by omega) (q_cpS2 hcq c_49) (by omega) ls (lv_sub hl [1, 2, 0] rfl)
          · refine lv_iconst (v := nI 0) hx hb dX9_canPay_52 (by decide) ?_
            exact q_zret (v := nI 0) hx hb hr hlocks (q_nar0) (show nI 0 = bI (q_cp T n ow P S n) from by rw [q_cpF c_21 c_49 (show i < n from by omega)]; rfl) dX9_canPay_53
  refine lv_iconst (v := nI 0) hx hb dX9_canPay_0 (by decide) ?_
  refine lv_istore_n (lv' := [(2, .int (nI 0)), (0, .ref xa), (1, .int (nI S))]) hx hb dX9_canPay_1 rfl hl (by decide) rfl (fun ls hl => ?_)
  exact L2 _ 0 (Nat.zero_le _) (rfl) (Nat.lt_succ_self _) ls (lv_sub hl [1, 2, 0] rfl)

set_option maxHeartbeats 4000000 in
set_option maxRecDepth 100000 in
theorem c_X9_person (l : Launch) {D : va_G} {cI cB cZ : ClassId} {xa : Nat} {tx : Nat} {rd : Nat} {tl : Nat} {hm : Nat} {hc : Nat} {hx0 : Nat} {hn : Nat} {un : Nat} {kp : Nat} {sg : Nat} {hp : Nat} {hh : Nat} {ht : Nat} {n : Nat} {fo : Int32} {ss : Int32} {w : Int32} {v : Int32} {tr : Nat → Int32} {T : Nat → Nat → Nat} {hq : Nat} {ow : Nat} {pn : Nat → Int32} {P : Nat → Nat} (hT : q_Tr T n tr) (hB : q_Bd T n) (how : ow < 2 ^ n) (hPn : ∀ i, i < n → pn i = nI (P i)) (hPb : ∀ i, i < n → P i < 2147483648) : Met l yX9_person wsX9_person ({ frames := 3, cells := 0, slots := 0, locals := 62 } : Room) (va_Pc [.ref xa, .int w, .int v] (q_B D (q_tys cI cB cZ) [(xa, .inr (9, [.ref tx, .ref rd, .ref tl, .ref hm, .ref hc, .ref hx0, .ref hn, .ref un, .ref kp, .ref sg])), (hm, .inr (3, [.ref hp, .ref hh])), (hp, .inr (4, [.ref ht, .int (nI n), .int fo, .int ss])), (ht, .inl (cI, 35, .inl tr)), (hn, .inr (2, [.ref hq, .int (nI ow)])), (hq, .inl (cI, 7, .inl pn))])) (vp_Si (fun r => r = A_person T n ow P w v)) 0 0 (fun _ => False) := by
  refine Met.ofW (cc := cX9_person) (maxL := 3) (ret := (some .int)) (by decide) rfl ?_
  intro p e s m args below meth c s₁ B hml hv
  obtain ⟨rfl, hP, hK⟩ := hv
  have hx := B.exec
  have hb := B.bytes
  have hr := B.returns
  have hts := atoms_spec (ws := wsX9_person) B.pre
  have hown : s.vm.findClass RX9 = some m.cls := findClass_of_methodNamed B.named
  have hlocks := B.notSynchronized
  have hin3 : ∀ w ∈ u_ws RX3 TX3 2, w ∈ wsX9_person := by decide +kernel
  have hin9 : ∀ w ∈ u_ws RX9 TX9 10, w ∈ wsX9_person := by decide +kernel
  have hP : va_P D vwCl [(xa, .inr (9, [.ref tx, .ref rd, .ref tl, .ref hm, .ref hc, .ref hx0, .ref hn, .ref un, .ref kp, .ref sg])), (hm, .inr (3, [.ref hp, .ref hh])), (hp, .inr (4, [.ref ht, .int (nI n), .int fo, .int ss])), (ht, .inl (cI, 35, .inl tr)), (hn, .inr (2, [.ref hq, .int (nI ow)])), (hq, .inl (cI, 7, .inl pn))] s.heap := hP
  have hl := lv_entry ([.ref xa, .int w, .int v]) (n := 3) (Nat.le_of_ble_eq_true rfl)
  rw [lg_entry_eq]
  generalize (lg_sl ([.ref xa, .int w, .int v]) ++ List.replicate (3 - (lg_sl ([.ref xa, .int w, .int v])).length) Slot.unset).toArray = ls at hl ⊢
  have hl : lv_has ls 3 [(0, .ref xa), (1, .int w), (2, .int v)] := hl
  have hn7 := hB.1
  have hp2 : 2 ^ n ≤ 128 := q_p2 hB.1
  have ho128 := q_S128 hB how
  rcases hw : q_ix (n) w with _ | i
  · refine lv_aload_n hx hb dX9_person_0 rfl (lv_at hl 0 rfl) ?_
    refine lv_iload_n hx hb dX9_person_1 rfl (lv_at hl 1 rfl) ?_
    refine q_vi (As := [.int w]) (rest := []) ⟨hx, hb, hml, hown, hts⟩ (c_X9_isPerson l (D := D) (cI := cI) (cB := cB) (cZ := cZ) (xa := xa) (tx := tx) (rd := rd) (tl := tl) (hm := hm) (hc := hc) (hx0 := hx0) (hn := hn) (un := un) (kp := kp) (sg := sg) (hp := hp) (hh := hh) (ht := ht) (n := n) (fo := fo) (ss := ss) (w := w) (by omega)) (cwV 1 hts gX9_person_X9_isPerson rfl rfl rfl (by decide +kernel) ⟨Nat.le_of_ble_eq_true rfl, Nat.le_of_ble_eq_true rfl⟩) hK hP [0, 1, 2] rfl 0 9 rfl rfl rfl rfl hl.1 rfl (Nat.le_of_ble_eq_true rfl) dX9_person_2 ⟨Nat.zero_le _, Nat.zero_le _⟩ (fun r_2 hr_2 => ?_)
    have hr_2 : bI false = r_2 := (Eq.trans (show r_2 = bI ((q_ix n w).isSome) from hr_2) (by rw [hw]; rfl)).symm
    subst hr_2
    refine q_beq (tgt := 17) hx hb dX9_person_5 (by decide) (fun c_5 => ?_) (fun c_5 => ?_)
    · refine lv_iconst (v := (-1 : Int32)) hx hb dX9_person_17 (by decide) ?_
      exact q_zret (v := (-1 : Int32)) hx hb hr hlocks (rfl) (show (-1 : Int32) = A_person T n ow P w v from by simp only [A_person, hw]) dX9_person_18
    · exact absurd c_5 (by decide)
  · have hwe := q_ixS hw
    have hl : lv_has ls 3 [(0, .ref xa), (1, .int (nI i)), (2, .int v)] := by rw [← show w = nI i from hwe.1]; exact hl
    refine lv_aload_n hx hb dX9_person_0 rfl (lv_at hl 0 rfl) ?_
    refine lv_iload_n hx hb dX9_person_1 rfl (lv_at hl 1 rfl) ?_
    refine q_vi (As := [.int (nI i)]) (rest := []) ⟨hx, hb, hml, hown, hts⟩ (c_X9_isPerson l (D := D) (cI := cI) (cB := cB) (cZ := cZ) (xa := xa) (tx := tx) (rd := rd) (tl := tl) (hm := hm) (hc := hc) (hx0 := hx0) (hn := hn) (un := un) (kp := kp) (sg := sg) (hp := hp) (hh := hh) (ht := ht) (n := n) (fo := fo) (ss := ss) (w := nI i) (by omega)) (cwV 1 hts gX9_person_X9_isPerson rfl rfl rfl (by decide +kernel) ⟨Nat.le_of_ble_eq_true rfl, Nat.le_of_ble_eq_true rfl⟩) hK hP [0, 1, 2] rfl 0 9 rfl rfl rfl rfl hl.1 rfl (Nat.le_of_ble_eq_true rfl) dX9_person_2 ⟨Nat.zero_le _, Nat.zero_le _⟩ (fun r_2 hr_2 => ?_)
    have hr_2 : bI true = r_2 := (Eq.trans (show r_2 = bI ((q_ix n (nI i)).isSome) from hr_2) (by rw [q_ixI hwe.2 (by omega)]; rfl)).symm
    subst hr_2
    refine q_beq (tgt := 17) hx hb dX9_person_5 (by decide) (fun c_5 => ?_) (fun c_5 => ?_)
    · exact absurd c_5 (by decide)
    · rcases hv : q_ix (6) v with _ | k
      · refine lv_iload_n hx hb dX9_person_8 rfl (lv_at hl 2 rfl) ?_
        refine lv_if_lt (x := v) (tgt := 17) hx hb dX9_person_9 (by decide) (fun c_9 => ?_) (fun c_9 => ?_)
        · refine lv_iconst (v := (-1 : Int32)) hx hb dX9_person_17 (by decide) ?_
          exact q_zret (v := (-1 : Int32)) hx hb hr hlocks (rfl) (show (-1 : Int32) = A_person T n ow P w v from by simp only [A_person, hw]; rw [if_neg (q_ixne (by decide) (by decide) hv), if_neg (q_ixne (by decide) (by decide) hv), q_ixmono (by decide) (by decide) hv]) dX9_person_18
        · refine lv_iload_n hx hb dX9_person_12 rfl (lv_at hl 2 rfl) ?_
          refine lv_iconst (v := nI 5) hx hb dX9_person_13 (by decide) ?_
          refine lv_icmp_le (x := v) (y := nI 5) (tgt := 19) hx hb dX9_person_14 (by decide) (fun c_14 => ?_) (fun c_14 => ?_)
          · exact absurd c_14 ((fun z => q_ixd (k := 5) (by decide) rfl hv c_9 z))
          · refine lv_iconst (v := (-1 : Int32)) hx hb dX9_person_17 (by decide) ?_
            exact q_zret (v := (-1 : Int32)) hx hb hr hlocks (rfl) (show (-1 : Int32) = A_person T n ow P w v from by simp only [A_person, hw]; rw [if_neg (q_ixne (by decide) (by decide) hv), if_neg (q_ixne (by decide) (by decide) hv), q_ixmono (by decide) (by decide) hv]) dX9_person_18
      · have hve := q_ixS hv
        have hl : lv_has ls 3 [(0, .ref xa), (1, .int (nI i)), (2, .int (nI k))] := by rw [← show v = nI k from hve.1]; exact hl
        refine lv_iload_n hx hb dX9_person_8 rfl (lv_at hl 2 rfl) ?_
        refine q_zlt (tgt := 17) hx hb dX9_person_9 (by decide) (by omega) (fun c_9 => ?_) (fun c_9 => ?_)
        · exact absurd c_9 (Nat.not_lt_zero _)
        · refine lv_iload_n hx hb dX9_person_12 rfl (lv_at hl 2 rfl) ?_
          refine lv_iconst (v := nI 5) hx hb dX9_person_13 (by decide) ?_
          refine q_nle (tgt := 19) hx hb dX9_person_14 (by decide) (by omega) (by omega) (fun c_14 => ?_) (fun c_14 => ?_)
          · refine lv_iload_n hx hb dX9_person_19 rfl (lv_at hl 2 rfl) ?_
            refine lv_iconst (v := nI 4) hx hb dX9_person_20 (by decide) ?_
            refine q_nne (tgt := 37) hx hb dX9_person_21 (by decide) (by omega) (by omega) (fun c_21 => ?_) (fun c_21 => ?_)
            · refine lv_iload_n hx hb dX9_person_37 rfl (lv_at hl 2 rfl) ?_
              refine lv_iconst (v := nI 5) hx hb dX9_person_38 (by decide) ?_
              refine q_nne (tgt := 59) hx hb dX9_person_39 (by decide) (by omega) (by omega) (fun c_39 => ?_) (fun c_39 => ?_)
              · refine lv_aload_n hx hb dX9_person_59 rfl (lv_at hl 0 rfl) ?_
                refine q_get (ci := 9) (CC := RX9) (T := TX9) (N := 10) (v := .ref hm) hx hb hts hin9 hown hK hP 0 rfl rfl 3 (by decide) (hts (.fieldLink RX9 33 "DearAsMany" "market" "LDearAsMany$Market;") (by decide +kernel)) rfl rfl dX9_person_60 ?_
                refine q_get (ci := 3) (CC := RX3) (T := TX3) (N := 2) (v := .ref hp) hx hb hts hin3 hown hK hP 1 rfl rfl 0 (by decide) (hts (.fieldLink RX9 108 "DearAsMany$Market" "people" "LDearAsMany$People;") (by decide +kernel)) rfl rfl dX9_person_63 ?_
                refine lv_iload_n hx hb dX9_person_66 rfl (lv_at hl 1 rfl) ?_
                refine lv_iload_n hx hb dX9_person_67 rfl (lv_at hl 2 rfl) ?_
                refine q_vi (As := [.int (nI i), .int (nI k)]) (rest := []) ⟨hx, hb, hml, hown, hts⟩ (c_X4_trait l (D := D) (cI := cI) (cB := cB) (cZ := cZ) (hp := hp) (ht := ht) (i := i) (k := k) (sz := nI n) (fo := fo) (ss := ss) (tr := tr) (by omega) (by omega)) (cwV 2 hts gX9_person_X4_trait rfl rfl rfl (by decide +kernel) ⟨Nat.le_of_ble_eq_true rfl, Nat.le_of_ble_eq_true rfl⟩) hK hP [2, 3] rfl 2 4 rfl rfl rfl rfl hl.1 rfl (Nat.le_of_ble_eq_true rfl) dX9_person_68 ⟨Nat.zero_le _, Nat.zero_le _⟩ (fun r_68 hr_68 => ?_)
                have hr_68 : nI (T i k) = r_68 := (Eq.trans (show r_68 = tr (i * 5 + k) from hr_68) (hT i hwe.2 k (by omega))).symm
                subst hr_68
                exact q_zret (v := nI (T i k)) hx hb hr hlocks (rfl) (show nI (T i k) = A_person T n ow P w v from by simp only [A_person, hw]; rw [if_neg (by rw [hve.1]; exact fun z => absurd ((nI_eq (by omega) (by decide)).mp z) (by omega)), if_neg (by rw [hve.1]; exact fun z => absurd ((nI_eq (by omega) (by decide)).mp z) (by omega)), hve.1, q_ixI (by omega) (by omega)]) dX9_person_71
              · refine lv_aload_n hx hb dX9_person_42 rfl (lv_at hl 0 rfl) ?_
                refine q_get (ci := 9) (CC := RX9) (T := TX9) (N := 10) (v := .ref hn) hx hb hts hin9 hown hK hP 0 rfl rfl 6 (by decide) (hts (.fieldLink RX9 56 "DearAsMany" "now" "LDearAsMany$Holding;") (by decide +kernel)) rfl rfl dX9_person_43 ?_
                refine lv_iload_n hx hb dX9_person_46 rfl (lv_at hl 1 rfl) ?_
                refine q_vi (As := [.int (nI i)]) (rest := []) ⟨hx, hb, hml, hown, hts⟩ (c_X2_owns l (D := D) (cI := cI) (cB := cB) (cZ := cZ) (hn := hn) (hq := hq) (i := i) (ow := ow) (by omega) (by omega)) (cwV 1 hts gX9_person_X2_owns rfl rfl rfl (by decide +kernel) ⟨Nat.le_of_ble_eq_true rfl, Nat.le_of_ble_eq_true rfl⟩) hK hP [4] rfl 4 2 rfl rfl rfl rfl hl.1 rfl (Nat.le_of_ble_eq_true rfl) dX9_person_47 ⟨Nat.zero_le _, Nat.zero_le _⟩ (fun r_47 hr_47 => ?_)
                have hr_47 : bI (ow.testBit i) = r_47 := (show r_47 = bI (ow.testBit i) from hr_47).symm
                subst hr_47
                refine q_beq (tgt := 57) hx hb dX9_person_50 (by decide) (fun c_50 => ?_) (fun c_50 => ?_)
                · refine lv_iconst (v := nI 0) hx hb dX9_person_57 (by decide) ?_
                  exact q_zret (v := nI 0) hx hb hr hlocks (rfl) (show nI 0 = A_person T n ow P w v from by simp only [A_person, hw]; rw [if_neg (by rw [hve.1]; exact fun z => absurd ((nI_eq (by omega) (by decide)).mp z) (by omega)), if_pos (by rw [hve.1, c_39]), c_50]; rfl) dX9_person_58
                · refine lv_iconst (v := nI 1) hx hb dX9_person_53 (by decide) ?_
                  refine lv_goto (tgt := 58) hx hb dX9_person_54 (by decide) ?_
                  exact q_zret (v := nI 1) hx hb hr hlocks (rfl) (show nI 1 = A_person T n ow P w v from by simp only [A_person, hw]; rw [if_neg (by rw [hve.1]; exact fun z => absurd ((nI_eq (by omega) (by decide)).mp z) (by omega)), if_pos (by rw [hve.1, c_39]), c_50]; rfl) dX9_person_58
            · refine lv_aload_n hx hb dX9_person_24 rfl (lv_at hl 0 rfl) ?_
              refine q_get (ci := 9) (CC := RX9) (T := TX9) (N := 10) (v := .ref hn) hx hb hts hin9 hown hK hP 0 rfl rfl 6 (by decide) (hts (.fieldLink RX9 56 "DearAsMany" "now" "LDearAsMany$Holding;") (by decide +kernel)) rfl rfl dX9_person_25 ?_
              refine lv_iload_n hx hb dX9_person_28 rfl (lv_at hl 1 rfl) ?_
              refine q_vi (As := [.int (nI i)]) (rest := []) ⟨hx, hb, hml, hown, hts⟩ (c_X2_penniesOf l (D := D) (cI := cI) (cB := cB) (cZ := cZ) (hn := hn) (hq := hq) (i := i) (ow := nI ow) (pn := pn) (by omega)) (cwV 1 hts gX9_person_X2_penniesOf rfl rfl rfl (by decide +kernel) ⟨Nat.le_of_ble_eq_true rfl, Nat.le_of_ble_eq_true rfl⟩) hK hP [4, 5] rfl 4 2 rfl rfl rfl rfl hl.1 rfl (Nat.le_of_ble_eq_true rfl) dX9_person_29 ⟨Nat.zero_le _, Nat.zero_le _⟩ (fun r_29 hr_29 => ?_)
              have hr_29 : nI (P i) = r_29 := (Eq.trans (show r_29 = pn i from hr_29) (hPn i hwe.2)).symm
              subst hr_29
              refine lv_sipush (v := nI 1000) hx hb dX9_person_32 (by decide) ?_
              refine q_iadd (v := nI ((P i) + 1000)) hx hb dX9_person_35 (nI_add _ _) ?_
              exact q_zret (v := nI ((P i) + 1000)) hx hb hr hlocks (rfl) (show nI ((P i) + 1000) = A_person T n ow P w v from by simp only [A_person, hw]; rw [if_pos (by rw [hve.1, c_21])]) dX9_person_36
          · exfalso; omega

set_option maxHeartbeats 4000000 in
set_option maxRecDepth 100000 in
theorem c_X9_worth (l : Launch) {D : va_G} {cI cB cZ : ClassId} {xa : Nat} {tx : Nat} {rd : Nat} {tl : Nat} {hm : Nat} {hc : Nat} {hx0 : Nat} {hn : Nat} {un : Nat} {kp : Nat} {sg : Nat} {hp : Nat} {hh : Nat} {ht : Nat} {n : Nat} {fo : Int32} {ss : Int32} {tr : Nat → Int32} {hom : Nat → Int32} {T : Nat → Nat → Nat} {w : Int32} {v : Int32} (hT : q_Tr T n tr) (hB : q_Bd T n) (hH : q_Hm T n hom) : Met l yX9_worth wsX9_worth ({ frames := 3, cells := 0, slots := 0, locals := 70 } : Room) (va_Pc [.ref xa, .int w, .int v] (q_B D (q_tys cI cB cZ) [(xa, .inr (9, [.ref tx, .ref rd, .ref tl, .ref hm, .ref hc, .ref hx0, .ref hn, .ref un, .ref kp, .ref sg])), (hm, .inr (3, [.ref hp, .ref hh])), (hp, .inr (4, [.ref ht, .int (nI n), .int fo, .int ss])), (ht, .inl (cI, 35, .inl tr)), (hh, .inl (cI, 128, .inl hom))])) (vp_Si (fun r => r = A_worth T n ss w v)) 0 0 (fun _ => False) := by
  refine Met.ofW (cc := cX9_worth) (maxL := 3) (ret := (some .int)) (by decide) rfl ?_
  intro p e s m args below meth c s₁ B hml hv
  obtain ⟨rfl, hP, hK⟩ := hv
  have hx := B.exec
  have hb := B.bytes
  have hr := B.returns
  have hts := atoms_spec (ws := wsX9_worth) B.pre
  have hown : s.vm.findClass RX9 = some m.cls := findClass_of_methodNamed B.named
  have hlocks := B.notSynchronized
  have hin9 : ∀ w ∈ u_ws RX9 TX9 10, w ∈ wsX9_worth := by decide +kernel
  have hP : va_P D vwCl [(xa, .inr (9, [.ref tx, .ref rd, .ref tl, .ref hm, .ref hc, .ref hx0, .ref hn, .ref un, .ref kp, .ref sg])), (hm, .inr (3, [.ref hp, .ref hh])), (hp, .inr (4, [.ref ht, .int (nI n), .int fo, .int ss])), (ht, .inl (cI, 35, .inl tr)), (hh, .inl (cI, 128, .inl hom))] s.heap := hP
  have hl := lv_entry ([.ref xa, .int w, .int v]) (n := 3) (Nat.le_of_ble_eq_true rfl)
  rw [lg_entry_eq]
  generalize (lg_sl ([.ref xa, .int w, .int v]) ++ List.replicate (3 - (lg_sl ([.ref xa, .int w, .int v])).length) Slot.unset).toArray = ls at hl ⊢
  have hl : lv_has ls 3 [(0, .ref xa), (1, .int w), (2, .int v)] := hl
  have hn7 := hB.1
  have hp2 : 2 ^ n ≤ 128 := q_p2 hB.1
  rcases hw : q_ix (n) w with _ | i
  · refine lv_aload_n hx hb dX9_worth_0 rfl (lv_at hl 0 rfl) ?_
    refine lv_iload_n hx hb dX9_worth_1 rfl (lv_at hl 1 rfl) ?_
    refine q_vi (As := [.int w]) (rest := []) ⟨hx, hb, hml, hown, hts⟩ (c_X9_isPerson l (D := D) (cI := cI) (cB := cB) (cZ := cZ) (xa := xa) (tx := tx) (rd := rd) (tl := tl) (hm := hm) (hc := hc) (hx0 := hx0) (hn := hn) (un := un) (kp := kp) (sg := sg) (hp := hp) (hh := hh) (ht := ht) (n := n) (fo := fo) (ss := ss) (w := w) (by omega)) (cwV 1 hts gX9_worth_X9_isPerson rfl rfl rfl (by decide +kernel) ⟨Nat.le_of_ble_eq_true rfl, Nat.le_of_ble_eq_true rfl⟩) hK hP [0, 1, 2] rfl 0 9 rfl rfl rfl rfl hl.1 rfl (Nat.le_of_ble_eq_true rfl) dX9_worth_2 ⟨Nat.zero_le _, Nat.zero_le _⟩ (fun r_2 hr_2 => ?_)
    have hr_2 : bI false = r_2 := (Eq.trans (show r_2 = bI ((q_ix n w).isSome) from hr_2) (by rw [hw]; rfl)).symm
    subst hr_2
    refine q_beq (tgt := 16) hx hb dX9_worth_5 (by decide) (fun c_5 => ?_) (fun c_5 => ?_)
    · refine lv_iconst (v := (-1 : Int32)) hx hb dX9_worth_16 (by decide) ?_
      exact q_zret (v := (-1 : Int32)) hx hb hr hlocks (rfl) (show (-1 : Int32) = A_worth T n ss w v from by simp only [A_worth, hw]) dX9_worth_17
    · exact absurd c_5 (by decide)
  · have hwe := q_ixS hw
    have hl : lv_has ls 3 [(0, .ref xa), (1, .int (nI i)), (2, .int v)] := by rw [← show w = nI i from hwe.1]; exact hl
    refine lv_aload_n hx hb dX9_worth_0 rfl (lv_at hl 0 rfl) ?_
    refine lv_iload_n hx hb dX9_worth_1 rfl (lv_at hl 1 rfl) ?_
    refine q_vi (As := [.int (nI i)]) (rest := []) ⟨hx, hb, hml, hown, hts⟩ (c_X9_isPerson l (D := D) (cI := cI) (cB := cB) (cZ := cZ) (xa := xa) (tx := tx) (rd := rd) (tl := tl) (hm := hm) (hc := hc) (hx0 := hx0) (hn := hn) (un := un) (kp := kp) (sg := sg) (hp := hp) (hh := hh) (ht := ht) (n := n) (fo := fo) (ss := ss) (w := nI i) (by omega)) (cwV 1 hts gX9_worth_X9_isPerson rfl rfl rfl (by decide +kernel) ⟨Nat.le_of_ble_eq_true rfl, Nat.le_of_ble_eq_true rfl⟩) hK hP [0, 1, 2] rfl 0 9 rfl rfl rfl rfl hl.1 rfl (Nat.le_of_ble_eq_true rfl) dX9_worth_2 ⟨Nat.zero_le _, Nat.zero_le _⟩ (fun r_2 hr_2 => ?_)
    have hr_2 : bI true = r_2 := (Eq.trans (show r_2 = bI ((q_ix n (nI i)).isSome) from hr_2) (by rw [q_ixI hwe.2 (by omega)]; rfl)).symm
    subst hr_2
    refine q_beq (tgt := 16) hx hb dX9_worth_5 (by decide) (fun c_5 => ?_) (fun c_5 => ?_)
    · exact absurd c_5 (by decide)
    · rcases hv : q_ix (2 ^ n) v with _ | S
      · refine lv_aload_n hx hb dX9_worth_8 rfl (lv_at hl 0 rfl) ?_
        refine lv_iload_n hx hb dX9_worth_9 rfl (lv_at hl 2 rfl) ?_
        refine q_vi (As := [.int v]) (rest := []) ⟨hx, hb, hml, hown, hts⟩ (c_X9_isSet l (D := D) (cI := cI) (cB := cB) (cZ := cZ) (xa := xa) (tx := tx) (rd := rd) (tl := tl) (hm := hm) (hc := hc) (hx0 := hx0) (hn := hn) (un := un) (kp := kp) (sg := sg) (hp := hp) (hh := hh) (ht := ht) (n := n) (fo := fo) (ss := ss) (w := v) (⟨by omega, by omega⟩)) (cwV 1 hts gX9_worth_X9_isSet rfl rfl rfl (by decide +kernel) ⟨Nat.le_of_ble_eq_true rfl, Nat.le_of_ble_eq_true rfl⟩) hK hP [0, 1, 2] rfl 0 9 rfl rfl rfl rfl hl.1 rfl (Nat.le_of_ble_eq_true rfl) dX9_worth_10 ⟨Nat.zero_le _, Nat.zero_le _⟩ (fun r_10 hr_10 => ?_)
        have hr_10 : bI false = r_10 := (Eq.trans (show r_10 = bI ((q_ix (2 ^ n) v).isSome) from hr_10) (by rw [hv]; rfl)).symm
        subst hr_10
        refine q_bne (tgt := 18) hx hb dX9_worth_13 (by decide) (fun c_13 => ?_) (fun c_13 => ?_)
        · exact absurd c_13 (by decide)
        · refine lv_iconst (v := (-1 : Int32)) hx hb dX9_worth_16 (by decide) ?_
          exact q_zret (v := (-1 : Int32)) hx hb hr hlocks (rfl) (show (-1 : Int32) = A_worth T n ss w v from by simp only [A_worth, hw, hv]) dX9_worth_17
      · have hve := q_ixS hv
        have hl : lv_has ls 3 [(0, .ref xa), (1, .int (nI i)), (2, .int (nI S))] := by rw [← show v = nI S from hve.1]; exact hl
        refine lv_aload_n hx hb dX9_worth_8 rfl (lv_at hl 0 rfl) ?_
        refine lv_iload_n hx hb dX9_worth_9 rfl (lv_at hl 2 rfl) ?_
        refine q_vi (As := [.int (nI S)]) (rest := []) ⟨hx, hb, hml, hown, hts⟩ (c_X9_isSet l (D := D) (cI := cI) (cB := cB) (cZ := cZ) (xa := xa) (tx := tx) (rd := rd) (tl := tl) (hm := hm) (hc := hc) (hx0 := hx0) (hn := hn) (un := un) (kp := kp) (sg := sg) (hp := hp) (hh := hh) (ht := ht) (n := n) (fo := fo) (ss := ss) (w := nI S) (⟨by omega, by omega⟩)) (cwV 1 hts gX9_worth_X9_isSet rfl rfl rfl (by decide +kernel) ⟨Nat.le_of_ble_eq_true rfl, Nat.le_of_ble_eq_true rfl⟩) hK hP [0, 1, 2] rfl 0 9 rfl rfl rfl rfl hl.1 rfl (Nat.le_of_ble_eq_true rfl) dX9_worth_10 ⟨Nat.zero_le _, Nat.zero_le _⟩ (fun r_10 hr_10 => ?_)
        have hr_10 : bI true = r_10 := (Eq.trans (show r_10 = bI ((q_ix (2 ^ n) (nI S)).isSome) from hr_10) (by rw [q_ixI hve.2 (by omega)]; rfl)).symm
        subst hr_10
        refine q_bne (tgt := 18) hx hb dX9_worth_13 (by decide) (fun c_13 => ?_) (fun c_13 => ?_)
        · refine lv_aload_n hx hb dX9_worth_18 rfl (lv_at hl 0 rfl) ?_
          refine q_get (ci := 9) (CC := RX9) (T := TX9) (N := 10) (v := .ref hm) hx hb hts hin9 hown hK hP 0 rfl rfl 3 (by decide) (hts (.fieldLink RX9 33 "DearAsMany" "market" "LDearAsMany$Market;") (by decide +kernel)) rfl rfl dX9_worth_19 ?_
          refine lv_iload_n hx hb dX9_worth_22 rfl (lv_at hl 1 rfl) ?_
          refine lv_iload_n hx hb dX9_worth_23 rfl (lv_at hl 2 rfl) ?_
          refine lv_aload_n hx hb dX9_worth_24 rfl (lv_at hl 0 rfl) ?_
          refine q_vi (As := []) (rest := [.int (nI S), .int (nI i), .ref hm]) ⟨hx, hb, hml, hown, hts⟩ (c_X9_season l (D := D) (cI := cI) (cB := cB) (cZ := cZ) (xa := xa) (tx := tx) (rd := rd) (tl := tl) (hm := hm) (hc := hc) (hx0 := hx0) (hn := hn) (un := un) (kp := kp) (sg := sg) (hp := hp) (hh := hh) (ht := ht) (n := n) (fo := fo) (ss := ss) ) (cwV 0 hts gX9_worth_X9_season rfl rfl rfl (by decide +kernel) ⟨Nat.le_of_ble_eq_true rfl, Nat.le_of_ble_eq_true rfl⟩) hK hP [0, 1, 2] rfl 0 9 rfl rfl rfl rfl hl.1 rfl (Nat.le_of_ble_eq_true rfl) dX9_worth_25 ⟨Nat.zero_le _, Nat.zero_le _⟩ (fun r_25 hr_25 => ?_)
          have hr_25 : ss = r_25 := (show r_25 = ss from hr_25).symm
          subst hr_25
          refine q_vi (As := [.int (nI i), .int (nI S), .int ss]) (rest := []) ⟨hx, hb, hml, hown, hts⟩ (c_X3_valueTo l (D := D) (cI := cI) (cB := cB) (cZ := cZ) (hm := hm) (hp := hp) (hh := hh) (ht := ht) (n := n) (fo := fo) (ss := ss) (tr := tr) (hom := hom) (T := T) (i := i) (S := S) (se := ss) (by first | assumption | exact Nat.zero_le _ | omega) (by first | assumption | exact Nat.zero_le _ | omega) (by first | assumption | exact Nat.zero_le _ | omega) (hwe.2) (hve.2)) (cwV 3 hts gX9_worth_X3_valueTo rfl rfl rfl (by decide +kernel) ⟨Nat.le_of_ble_eq_true rfl, Nat.le_of_ble_eq_true rfl⟩) hK hP [1, 2, 3, 4] rfl 1 3 rfl rfl rfl rfl hl.1 rfl (Nat.le_of_ble_eq_true rfl) dX9_worth_28 ⟨Nat.zero_le _, Nat.zero_le _⟩ (fun r_28 hr_28 => ?_)
          have hr_28 : q_wor T n ss i S = r_28 := (show r_28 = q_wor T n ss i S from hr_28).symm
          subst hr_28
          refine lv_sipush (v := nI 1000) hx hb dX9_worth_31 (by decide) ?_
          refine q_iadd (v := (q_wor T n ss i S) + (nI 1000)) hx hb dX9_worth_34 (rfl) ?_
          exact q_zret (v := (q_wor T n ss i S) + (nI 1000)) hx hb hr hlocks (rfl) (show (q_wor T n ss i S) + (nI 1000) = A_worth T n ss w v from by simp only [A_worth, hw, hv]) dX9_worth_35
        · exact absurd c_13 (by decide)

set_option maxHeartbeats 4000000 in
set_option maxRecDepth 100000 in
theorem c_X9_price (l : Launch) {D : va_G} {cI cB cZ : ClassId} {xa : Nat} {tx : Nat} {rd : Nat} {tl : Nat} {hm : Nat} {hc : Nat} {hx0 : Nat} {hn : Nat} {un : Nat} {kp : Nat} {sg : Nat} {hp : Nat} {hh : Nat} {ht : Nat} {n : Nat} {fo : Int32} {ss : Int32} {tr : Nat → Int32} {hom : Nat → Int32} {T : Nat → Nat → Nat} {hq : Nat} {ow : Nat} {w : Int32} (hT : q_Tr T n tr) (hB : q_Bd T n) (hH : q_Hm T n hom) (how : ow < 2 ^ n) : Met l yX9_price wsX9_price ({ frames := 3, cells := 0, slots := 0, locals := 62 } : Room) (va_Pc [.ref xa, .int w] (q_B D (q_tys cI cB cZ) [(xa, .inr (9, [.ref tx, .ref rd, .ref tl, .ref hm, .ref hc, .ref hx0, .ref hn, .ref un, .ref kp, .ref sg])), (hm, .inr (3, [.ref hp, .ref hh])), (hp, .inr (4, [.ref ht, .int (nI n), .int fo, .int ss])), (ht, .inl (cI, 35, .inl tr)), (hh, .inl (cI, 128, .inl hom)), (hn, .inr (2, [.ref hq, .int (nI ow)]))])) (vp_Si (fun r => r = A_price T n ow w)) 0 0 (fun _ => False) := by
  refine Met.ofW (cc := cX9_price) (maxL := 2) (ret := (some .int)) (by decide) rfl ?_
  intro p e s m args below meth c s₁ B hml hv
  obtain ⟨rfl, hP, hK⟩ := hv
  have hx := B.exec
  have hb := B.bytes
  have hr := B.returns
  have hts := atoms_spec (ws := wsX9_price) B.pre
  have hown : s.vm.findClass RX9 = some m.cls := findClass_of_methodNamed B.named
  have hlocks := B.notSynchronized
  have hin2 : ∀ w ∈ u_ws RX2 TX2 2, w ∈ wsX9_price := by decide +kernel
  have hin9 : ∀ w ∈ u_ws RX9 TX9 10, w ∈ wsX9_price := by decide +kernel
  have hP : va_P D vwCl [(xa, .inr (9, [.ref tx, .ref rd, .ref tl, .ref hm, .ref hc, .ref hx0, .ref hn, .ref un, .ref kp, .ref sg])), (hm, .inr (3, [.ref hp, .ref hh])), (hp, .inr (4, [.ref ht, .int (nI n), .int fo, .int ss])), (ht, .inl (cI, 35, .inl tr)), (hh, .inl (cI, 128, .inl hom)), (hn, .inr (2, [.ref hq, .int (nI ow)]))] s.heap := hP
  have hl := lv_entry ([.ref xa, .int w]) (n := 2) (Nat.le_of_ble_eq_true rfl)
  rw [lg_entry_eq]
  generalize (lg_sl ([.ref xa, .int w]) ++ List.replicate (2 - (lg_sl ([.ref xa, .int w])).length) Slot.unset).toArray = ls at hl ⊢
  have hl : lv_has ls 2 [(0, .ref xa), (1, .int w)] := hl
  have hn7 := hB.1
  have hp2 : 2 ^ n ≤ 128 := q_p2 hB.1
  have ho128 := q_S128 hB how
  rcases hw : q_ix (n) w with _ | i
  · refine lv_aload_n hx hb dX9_price_0 rfl (lv_at hl 0 rfl) ?_
    refine lv_iload_n hx hb dX9_price_1 rfl (lv_at hl 1 rfl) ?_
    refine q_vi (As := [.int w]) (rest := []) ⟨hx, hb, hml, hown, hts⟩ (c_X9_isPerson l (D := D) (cI := cI) (cB := cB) (cZ := cZ) (xa := xa) (tx := tx) (rd := rd) (tl := tl) (hm := hm) (hc := hc) (hx0 := hx0) (hn := hn) (un := un) (kp := kp) (sg := sg) (hp := hp) (hh := hh) (ht := ht) (n := n) (fo := fo) (ss := ss) (w := w) (by omega)) (cwV 1 hts gX9_price_X9_isPerson rfl rfl rfl (by decide +kernel) ⟨Nat.le_of_ble_eq_true rfl, Nat.le_of_ble_eq_true rfl⟩) hK hP [0, 1, 2] rfl 0 9 rfl rfl rfl rfl hl.1 rfl (Nat.le_of_ble_eq_true rfl) dX9_price_2 ⟨Nat.zero_le _, Nat.zero_le _⟩ (fun r_2 hr_2 => ?_)
    have hr_2 : bI false = r_2 := (Eq.trans (show r_2 = bI ((q_ix n w).isSome) from hr_2) (by rw [hw]; rfl)).symm
    subst hr_2
    refine q_bne (tgt := 10) hx hb dX9_price_5 (by decide) (fun c_5 => ?_) (fun c_5 => ?_)
    · exact absurd c_5 (by decide)
    · refine lv_iconst (v := (-1 : Int32)) hx hb dX9_price_8 (by decide) ?_
      exact q_zret (v := (-1 : Int32)) hx hb hr hlocks (rfl) (show (-1 : Int32) = A_price T n ow w from by simp only [A_price, hw]) dX9_price_9
  · have hwe := q_ixS hw
    have hl : lv_has ls 2 [(0, .ref xa), (1, .int (nI i))] := by rw [← show w = nI i from hwe.1]; exact hl
    refine lv_aload_n hx hb dX9_price_0 rfl (lv_at hl 0 rfl) ?_
    refine lv_iload_n hx hb dX9_price_1 rfl (lv_at hl 1 rfl) ?_
    refine q_vi (As := [.int (nI i)]) (rest := []) ⟨hx, hb, hml, hown, hts⟩ (c_X9_isPerson l (D := D) (cI := cI) (cB := cB) (cZ := cZ) (xa := xa) (tx := tx) (rd := rd) (tl := tl) (hm := hm) (hc := hc) (hx0 := hx0) (hn := hn) (un := un) (kp := kp) (sg := sg) (hp := hp) (hh := hh) (ht := ht) (n := n) (fo := fo) (ss := ss) (w := nI i) (by omega)) (cwV 1 hts gX9_price_X9_isPerson rfl rfl rfl (by decide +kernel) ⟨Nat.le_of_ble_eq_true rfl, Nat.le_of_ble_eq_true rfl⟩) hK hP [0, 1, 2] rfl 0 9 rfl rfl rfl rfl hl.1 rfl (Nat.le_of_ble_eq_true rfl) dX9_price_2 ⟨Nat.zero_le _, Nat.zero_le _⟩ (fun r_2 hr_2 => ?_)
    have hr_2 : bI true = r_2 := (Eq.trans (show r_2 = bI ((q_ix n (nI i)).isSome) from hr_2) (by rw [q_ixI hwe.2 (by omega)]; rfl)).symm
    subst hr_2
    refine q_bne (tgt := 10) hx hb dX9_price_5 (by decide) (fun c_5 => ?_) (fun c_5 => ?_)
    · refine lv_aload_n hx hb dX9_price_10 rfl (lv_at hl 0 rfl) ?_
      refine q_get (ci := 9) (CC := RX9) (T := TX9) (N := 10) (v := .ref hn) hx hb hts hin9 hown hK hP 0 rfl rfl 6 (by decide) (hts (.fieldLink RX9 56 "DearAsMany" "now" "LDearAsMany$Holding;") (by decide +kernel)) rfl rfl dX9_price_11 ?_
      refine lv_iload_n hx hb dX9_price_14 rfl (lv_at hl 1 rfl) ?_
      refine q_vi (As := [.int (nI i)]) (rest := []) ⟨hx, hb, hml, hown, hts⟩ (c_X2_owns l (D := D) (cI := cI) (cB := cB) (cZ := cZ) (hn := hn) (hq := hq) (i := i) (ow := ow) (by omega) (by omega)) (cwV 1 hts gX9_price_X2_owns rfl rfl rfl (by decide +kernel) ⟨Nat.le_of_ble_eq_true rfl, Nat.le_of_ble_eq_true rfl⟩) hK hP [5] rfl 5 2 rfl rfl rfl rfl hl.1 rfl (Nat.le_of_ble_eq_true rfl) dX9_price_15 ⟨Nat.zero_le _, Nat.zero_le _⟩ (fun r_15 hr_15 => ?_)
      have hr_15 : bI (ow.testBit i) = r_15 := (show r_15 = bI (ow.testBit i) from hr_15).symm
      subst hr_15
      refine q_beq (tgt := 26) hx hb dX9_price_18 (by decide) (fun c_18 => ?_) (fun c_18 => ?_)
      · refine lv_aload_n hx hb dX9_price_26 rfl (lv_at hl 0 rfl) ?_
        refine q_get (ci := 9) (CC := RX9) (T := TX9) (N := 10) (v := .ref hm) hx hb hts hin9 hown hK hP 0 rfl rfl 3 (by decide) (hts (.fieldLink RX9 33 "DearAsMany" "market" "LDearAsMany$Market;") (by decide +kernel)) rfl rfl dX9_price_27 ?_
        refine lv_iload_n hx hb dX9_price_30 rfl (lv_at hl 1 rfl) ?_
        refine lv_aload_n hx hb dX9_price_31 rfl (lv_at hl 0 rfl) ?_
        refine q_get (ci := 9) (CC := RX9) (T := TX9) (N := 10) (v := .ref hn) hx hb hts hin9 hown hK hP 0 rfl rfl 6 (by decide) (hts (.fieldLink RX9 56 "DearAsMany" "now" "LDearAsMany$Holding;") (by decide +kernel)) rfl rfl dX9_price_32 ?_
        refine q_get (ci := 2) (CC := RX2) (T := TX2) (N := 2) (v := .int (nI ow)) hx hb hts hin2 hown hK hP 5 rfl rfl 1 (by decide) (hts (.fieldLink RX9 135 "DearAsMany$Holding" "owners" "I") (by decide +kernel)) rfl rfl dX9_price_35 ?_
        refine q_vi (As := [.int (nI i), .int (nI ow)]) (rest := []) ⟨hx, hb, hml, hown, hts⟩ (c_X3_othersOf l (D := D) (cI := cI) (cB := cB) (cZ := cZ) (hm := hm) (hp := hp) (hh := hh) (ht := ht) (n := n) (fo := fo) (ss := ss) (tr := tr) (hom := hom) (T := T) (i := i) (S := ow) (by first | assumption | exact Nat.zero_le _ | omega) (by first | assumption | exact Nat.zero_le _ | omega) (by first | assumption | exact Nat.zero_le _ | omega) (hwe.2) (how)) (cwV 2 hts gX9_price_X3_othersOf rfl rfl rfl (by decide +kernel) ⟨Nat.le_of_ble_eq_true rfl, Nat.le_of_ble_eq_true rfl⟩) hK hP [1, 2, 3, 4] rfl 1 3 rfl rfl rfl rfl hl.1 rfl (Nat.le_of_ble_eq_true rfl) dX9_price_38 ⟨Nat.zero_le _, Nat.zero_le _⟩ (fun r_38 hr_38 => ?_)
        have hr_38 : nI (q_oth T n i ow) = r_38 := (show r_38 = nI (q_oth T n i ow) from hr_38).symm
        subst hr_38
        exact q_zret (v := nI (q_oth T n i ow)) hx hb hr hlocks (rfl) (show nI (q_oth T n i ow) = A_price T n ow w from by simp only [A_price, hw, c_18]; rfl) dX9_price_41
      · refine lv_bipush (v := (-2 : Int32)) hx hb dX9_price_21 (by decide) ?_
        refine lv_goto (tgt := 41) hx hb dX9_price_23 (by decide) ?_
        exact q_zret (v := (-2 : Int32)) hx hb hr hlocks (rfl) (show (-2 : Int32) = A_price T n ow w from by simp only [A_price, hw, c_18]; rfl) dX9_price_41
    · exact absurd c_5 (by decide)

set_option maxHeartbeats 4000000 in
set_option maxRecDepth 100000 in
theorem c_X9_would (l : Launch) {D : va_G} {cI cB cZ : ClassId} {xa : Nat} {tx : Nat} {rd : Nat} {tl : Nat} {hm : Nat} {hc : Nat} {hx0 : Nat} {hn : Nat} {un : Nat} {kp : Nat} {sg : Nat} {hp : Nat} {hh : Nat} {ht : Nat} {n : Nat} {fo : Int32} {ss : Int32} {tr : Nat → Int32} {hom : Nat → Int32} {T : Nat → Nat → Nat} {hq : Nat} {ow : Nat} {w : Int32} (hT : q_Tr T n tr) (hB : q_Bd T n) (hH : q_Hm T n hom) (how : ow < 2 ^ n) : Met l yX9_would wsX9_would ({ frames := 4, cells := 0, slots := 0, locals := 96 } : Room) (va_Pc [.ref xa, .int w] (q_B D (q_tys cI cB cZ) [(xa, .inr (9, [.ref tx, .ref rd, .ref tl, .ref hm, .ref hc, .ref hx0, .ref hn, .ref un, .ref kp, .ref sg])), (hm, .inr (3, [.ref hp, .ref hh])), (hp, .inr (4, [.ref ht, .int (nI n), .int fo, .int ss])), (ht, .inl (cI, 35, .inl tr)), (hh, .inl (cI, 128, .inl hom)), (hn, .inr (2, [.ref hq, .int (nI ow)]))])) (vp_Si (fun r => r = A_would T n ss ow w)) 0 0 (fun _ => False) := by
  refine Met.ofW (cc := cX9_would) (maxL := 3) (ret := (some .int)) (by decide) rfl ?_
  intro p e s m args below meth c s₁ B hml hv
  obtain ⟨rfl, hP, hK⟩ := hv
  have hx := B.exec
  have hb := B.bytes
  have hr := B.returns
  have hts := atoms_spec (ws := wsX9_would) B.pre
  have hown : s.vm.findClass RX9 = some m.cls := findClass_of_methodNamed B.named
  have hlocks := B.notSynchronized
  have hin2 : ∀ w ∈ u_ws RX2 TX2 2, w ∈ wsX9_would := by decide +kernel
  have hin9 : ∀ w ∈ u_ws RX9 TX9 10, w ∈ wsX9_would := by decide +kernel
  have hP : va_P D vwCl [(xa, .inr (9, [.ref tx, .ref rd, .ref tl, .ref hm, .ref hc, .ref hx0, .ref hn, .ref un, .ref kp, .ref sg])), (hm, .inr (3, [.ref hp, .ref hh])), (hp, .inr (4, [.ref ht, .int (nI n), .int fo, .int ss])), (ht, .inl (cI, 35, .inl tr)), (hh, .inl (cI, 128, .inl hom)), (hn, .inr (2, [.ref hq, .int (nI ow)]))] s.heap := hP
  have hl := lv_entry ([.ref xa, .int w]) (n := 3) (Nat.le_of_ble_eq_true rfl)
  rw [lg_entry_eq]
  generalize (lg_sl ([.ref xa, .int w]) ++ List.replicate (3 - (lg_sl ([.ref xa, .int w])).length) Slot.unset).toArray = ls at hl ⊢
  have hl : lv_has ls 3 [(0, .ref xa), (1, .int w)] := hl
  have hn7 := hB.1
  have hp2 : 2 ^ n ≤ 128 := q_p2 hB.1
  have ho128 := q_S128 hB how
  rcases q_eitC w with hv | hv | hv
  · have hl : lv_has ls 3 [(0, .ref xa), (1, .int (nI 0))] := by rw [← show w = nI 0 from hv]; exact hl
    refine lv_iload_n hx hb dX9_would_0 rfl (lv_at hl 1 rfl) ?_
    refine q_si (As := [.int (nI 0)]) (rest := []) ⟨hx, hb, hml, hown, hts⟩ (c_X9_isEither l (D := D) (cI := cI) (cB := cB) (cZ := cZ) (w := nI 0) ) (va_cwS 1 hts gX9_would_X9_isEither rfl rfl rfl (by decide +kernel) ⟨Nat.le_of_ble_eq_true rfl, Nat.le_of_ble_eq_true rfl⟩) hK hP [] rfl rfl hl.1 rfl (Nat.le_of_ble_eq_true rfl) dX9_would_1 ⟨Nat.zero_le _, Nat.zero_le _⟩ (fun r_1 hr_1 => ?_)
    have hr_1 : bI true = r_1 := (Eq.trans (show r_1 = bI (q_eit (nI 0)) from hr_1) (by decide)).symm
    subst hr_1
    refine q_bne (tgt := 9) hx hb dX9_would_4 (by decide) (fun c_4 => ?_) (fun c_4 => ?_)
    · refine lv_aload_n hx hb dX9_would_9 rfl (lv_at hl 0 rfl) ?_
      refine q_get (ci := 9) (CC := RX9) (T := TX9) (N := 10) (v := .ref hm) hx hb hts hin9 hown hK hP 0 rfl rfl 3 (by decide) (hts (.fieldLink RX9 33 "DearAsMany" "market" "LDearAsMany$Market;") (by decide +kernel)) rfl rfl dX9_would_10 ?_
      refine lv_aload_n hx hb dX9_would_13 rfl (lv_at hl 0 rfl) ?_
      refine q_get (ci := 9) (CC := RX9) (T := TX9) (N := 10) (v := .ref hn) hx hb hts hin9 hown hK hP 0 rfl rfl 6 (by decide) (hts (.fieldLink RX9 56 "DearAsMany" "now" "LDearAsMany$Holding;") (by decide +kernel)) rfl rfl dX9_would_14 ?_
      refine q_get (ci := 2) (CC := RX2) (T := TX2) (N := 2) (v := .int (nI ow)) hx hb hts hin2 hown hK hP 5 rfl rfl 1 (by decide) (hts (.fieldLink RX9 135 "DearAsMany$Holding" "owners" "I") (by decide +kernel)) rfl rfl dX9_would_17 ?_
      refine lv_aload_n hx hb dX9_would_20 rfl (lv_at hl 0 rfl) ?_
      refine q_vi (As := []) (rest := [.int (nI ow), .ref hm]) ⟨hx, hb, hml, hown, hts⟩ (c_X9_season l (D := D) (cI := cI) (cB := cB) (cZ := cZ) (xa := xa) (tx := tx) (rd := rd) (tl := tl) (hm := hm) (hc := hc) (hx0 := hx0) (hn := hn) (un := un) (kp := kp) (sg := sg) (hp := hp) (hh := hh) (ht := ht) (n := n) (fo := fo) (ss := ss) ) (cwV 0 hts gX9_would_X9_season rfl rfl rfl (by decide +kernel) ⟨Nat.le_of_ble_eq_true rfl, Nat.le_of_ble_eq_true rfl⟩) hK hP [0, 1, 2] rfl 0 9 rfl rfl rfl rfl hl.1 rfl (Nat.le_of_ble_eq_true rfl) dX9_would_21 ⟨Nat.zero_le _, Nat.zero_le _⟩ (fun r_21 hr_21 => ?_)
      have hr_21 : ss = r_21 := (show r_21 = ss from hr_21).symm
      subst hr_21
      refine q_vi (As := [.int (nI ow), .int ss]) (rest := []) ⟨hx, hb, hml, hown, hts⟩ (c_X3_changersBy l (D := D) (cI := cI) (cB := cB) (cZ := cZ) (hm := hm) (hp := hp) (hh := hh) (ht := ht) (n := n) (fo := fo) (ss := ss) (tr := tr) (hom := hom) (T := T) (S := ow) (se := ss) (by first | assumption | exact Nat.zero_le _ | omega) (by first | assumption | exact Nat.zero_le _ | omega) (by first | assumption | exact Nat.zero_le _ | omega) (how)) (cwV 2 hts gX9_would_X3_changersBy rfl rfl rfl (by decide +kernel) ⟨Nat.le_of_ble_eq_true rfl, Nat.le_of_ble_eq_true rfl⟩) hK hP [1, 2, 3, 4] rfl 1 3 rfl rfl rfl rfl hl.1 rfl (Nat.le_of_ble_eq_true rfl) dX9_would_24 ⟨Nat.zero_le _, Nat.zero_le _⟩ (fun r_24 hr_24 => ?_)
      have hr_24 : nI (q_cs T n ss ow n) = r_24 := (show r_24 = nI (q_cs T n ss ow n) from hr_24).symm
      subst hr_24
      refine lv_istore_n (lv' := [(2, .int (nI (q_cs T n ss ow n))), (0, .ref xa), (1, .int (nI 0))]) hx hb dX9_would_27 rfl hl (by decide) rfl (fun ls hl => ?_)
      refine lv_iload_n hx hb dX9_would_28 rfl (lv_at hl 0 rfl) ?_
      refine lv_iload_n hx hb dX9_would_29 rfl (lv_at hl 2 rfl) ?_
      refine q_zne (tgt := 45) hx hb dX9_would_30 (by decide) (by omega) (fun c_30 => ?_) (fun c_30 => ?_)
      · exact absurd c_30 (by decide)
      · refine lv_aload_n hx hb dX9_would_33 rfl (lv_at hl 1 rfl) ?_
        refine q_get (ci := 9) (CC := RX9) (T := TX9) (N := 10) (v := .ref hn) hx hb hts hin9 hown hK hP 0 rfl rfl 6 (by decide) (hts (.fieldLink RX9 56 "DearAsMany" "now" "LDearAsMany$Holding;") (by decide +kernel)) rfl rfl dX9_would_34 ?_
        refine q_get (ci := 2) (CC := RX2) (T := TX2) (N := 2) (v := .int (nI ow)) hx hb hts hin2 hown hK hP 5 rfl rfl 1 (by decide) (hts (.fieldLink RX9 135 "DearAsMany$Holding" "owners" "I") (by decide +kernel)) rfl rfl dX9_would_37 ?_
        refine lv_iconst (v := (-1 : Int32)) hx hb dX9_would_40 (by decide) ?_
        refine q_ixor (v := (nI ow) ^^^ (-1 : Int32)) hx hb dX9_would_41 (rfl) ?_
        refine lv_goto (tgt := 52) hx hb dX9_would_42 (by decide) ?_
        refine q_iand (v := nI (q_nd (q_cs T n ss ow n) ow)) hx hb dX9_would_52 (q_ndI (by have := q_cs_lt (T := T) (n := n) (se := ss) (S := ow) (Nat.le_refl n); omega) ho128) ?_
        exact q_zret (v := nI (q_nd (q_cs T n ss ow n) ow)) hx hb hr hlocks (rfl) (show nI (q_nd (q_cs T n ss ow n) ow) = A_would T n ss ow w from by rw [A_would]; rw [if_pos hv]; rfl) dX9_would_53
    · exact absurd c_4 (by decide)
  · have hl : lv_has ls 3 [(0, .ref xa), (1, .int (nI 1))] := by rw [← show w = nI 1 from hv]; exact hl
    refine lv_iload_n hx hb dX9_would_0 rfl (lv_at hl 1 rfl) ?_
    refine q_si (As := [.int (nI 1)]) (rest := []) ⟨hx, hb, hml, hown, hts⟩ (c_X9_isEither l (D := D) (cI := cI) (cB := cB) (cZ := cZ) (w := nI 1) ) (va_cwS 1 hts gX9_would_X9_isEither rfl rfl rfl (by decide +kernel) ⟨Nat.le_of_ble_eq_true rfl, Nat.le_of_ble_eq_true rfl⟩) hK hP [] rfl rfl hl.1 rfl (Nat.le_of_ble_eq_true rfl) dX9_would_1 ⟨Nat.zero_le _, Nat.zero_le _⟩ (fun r_1 hr_1 => ?_)
    have hr_1 : bI true = r_1 := (Eq.trans (show r_1 = bI (q_eit (nI 1)) from hr_1) (by decide)).symm
    subst hr_1
    refine q_bne (tgt := 9) hx hb dX9_would_4 (by decide) (fun c_4 => ?_) (fun c_4 => ?_)
    · refine lv_aload_n hx hb dX9_would_9 rfl (lv_at hl 0 rfl) ?_
      refine q_get (ci := 9) (CC := RX9) (T := TX9) (N := 10) (v := .ref hm) hx hb hts hin9 hown hK hP 0 rfl rfl 3 (by decide) (hts (.fieldLink RX9 33 "DearAsMany" "market" "LDearAsMany$Market;") (by decide +kernel)) rfl rfl dX9_would_10 ?_
      refine lv_aload_n hx hb dX9_would_13 rfl (lv_at hl 0 rfl) ?_
      refine q_get (ci := 9) (CC := RX9) (T := TX9) (N := 10) (v := .ref hn) hx hb hts hin9 hown hK hP 0 rfl rfl 6 (by decide) (hts (.fieldLink RX9 56 "DearAsMany" "now" "LDearAsMany$Holding;") (by decide +kernel)) rfl rfl dX9_would_14 ?_
      refine q_get (ci := 2) (CC := RX2) (T := TX2) (N := 2) (v := .int (nI ow)) hx hb hts hin2 hown hK hP 5 rfl rfl 1 (by decide) (hts (.fieldLink RX9 135 "DearAsMany$Holding" "owners" "I") (by decide +kernel)) rfl rfl dX9_would_17 ?_
      refine lv_aload_n hx hb dX9_would_20 rfl (lv_at hl 0 rfl) ?_
      refine q_vi (As := []) (rest := [.int (nI ow), .ref hm]) ⟨hx, hb, hml, hown, hts⟩ (c_X9_season l (D := D) (cI := cI) (cB := cB) (cZ := cZ) (xa := xa) (tx := tx) (rd := rd) (tl := tl) (hm := hm) (hc := hc) (hx0 := hx0) (hn := hn) (un := un) (kp := kp) (sg := sg) (hp := hp) (hh := hh) (ht := ht) (n := n) (fo := fo) (ss := ss) ) (cwV 0 hts gX9_would_X9_season rfl rfl rfl (by decide +kernel) ⟨Nat.le_of_ble_eq_true rfl, Nat.le_of_ble_eq_true rfl⟩) hK hP [0, 1, 2] rfl 0 9 rfl rfl rfl rfl hl.1 rfl (Nat.le_of_ble_eq_true rfl) dX9_would_21 ⟨Nat.zero_le _, Nat.zero_le _⟩ (fun r_21 hr_21 => ?_)
      have hr_21 : ss = r_21 := (show r_21 = ss from hr_21).symm
      subst hr_21
      refine q_vi (As := [.int (nI ow), .int ss]) (rest := []) ⟨hx, hb, hml, hown, hts⟩ (c_X3_changersBy l (D := D) (cI := cI) (cB := cB) (cZ := cZ) (hm := hm) (hp := hp) (hh := hh) (ht := ht) (n := n) (fo := fo) (ss := ss) (tr := tr) (hom := hom) (T := T) (S := ow) (se := ss) (by first | assumption | exact Nat.zero_le _ | omega) (by first | assumption | exact Nat.zero_le _ | omega) (by first | assumption | exact Nat.zero_le _ | omega) (how)) (cwV 2 hts gX9_would_X3_changersBy rfl rfl rfl (by decide +kernel) ⟨Nat.le_of_ble_eq_true rfl, Nat.le_of_ble_eq_true rfl⟩) hK hP [1, 2, 3, 4] rfl 1 3 rfl rfl rfl rfl hl.1 rfl (Nat.le_of_ble_eq_true rfl) dX9_would_24 ⟨Nat.zero_le _, Nat.zero_le _⟩ (fun r_24 hr_24 => ?_)
      have hr_24 : nI (q_cs T n ss ow n) = r_24 := (show r_24 = nI (q_cs T n ss ow n) from hr_24).symm
      subst hr_24
      refine lv_istore_n (lv' := [(2, .int (nI (q_cs T n ss ow n))), (0, .ref xa), (1, .int (nI 1))]) hx hb dX9_would_27 rfl hl (by decide) rfl (fun ls hl => ?_)
      refine lv_iload_n hx hb dX9_would_28 rfl (lv_at hl 0 rfl) ?_
      refine lv_iload_n hx hb dX9_would_29 rfl (lv_at hl 2 rfl) ?_
      refine q_zne (tgt := 45) hx hb dX9_would_30 (by decide) (by omega) (fun c_30 => ?_) (fun c_30 => ?_)
      · refine lv_aload_n hx hb dX9_would_45 rfl (lv_at hl 1 rfl) ?_
        refine q_get (ci := 9) (CC := RX9) (T := TX9) (N := 10) (v := .ref hn) hx hb hts hin9 hown hK hP 0 rfl rfl 6 (by decide) (hts (.fieldLink RX9 56 "DearAsMany" "now" "LDearAsMany$Holding;") (by decide +kernel)) rfl rfl dX9_would_46 ?_
        refine q_get (ci := 2) (CC := RX2) (T := TX2) (N := 2) (v := .int (nI ow)) hx hb hts hin2 hown hK hP 5 rfl rfl 1 (by decide) (hts (.fieldLink RX9 135 "DearAsMany$Holding" "owners" "I") (by decide +kernel)) rfl rfl dX9_would_49 ?_
        refine q_iand (v := nI ((q_cs T n ss ow n) &&& ow)) hx hb dX9_would_52 (q_and _ _) ?_
        exact q_zret (v := nI ((q_cs T n ss ow n) &&& ow)) hx hb hr hlocks (rfl) (show nI ((q_cs T n ss ow n) &&& ow) = A_would T n ss ow w from by rw [A_would]; rw [if_neg (by rw [hv]; decide), if_pos hv]; rfl) dX9_would_53
      · exact absurd c_30 (by decide)
    · exact absurd c_4 (by decide)
  · refine lv_iload_n hx hb dX9_would_0 rfl (lv_at hl 1 rfl) ?_
    refine q_si (As := [.int w]) (rest := []) ⟨hx, hb, hml, hown, hts⟩ (c_X9_isEither l (D := D) (cI := cI) (cB := cB) (cZ := cZ) (w := w) ) (va_cwS 1 hts gX9_would_X9_isEither rfl rfl rfl (by decide +kernel) ⟨Nat.le_of_ble_eq_true rfl, Nat.le_of_ble_eq_true rfl⟩) hK hP [] rfl rfl hl.1 rfl (Nat.le_of_ble_eq_true rfl) dX9_would_1 ⟨Nat.zero_le _, Nat.zero_le _⟩ (fun r_1 hr_1 => ?_)
    have hr_1 : bI false = r_1 := (Eq.trans (show r_1 = bI (q_eit w) from hr_1) (by rw [hv])).symm
    subst hr_1
    refine q_bne (tgt := 9) hx hb dX9_would_4 (by decide) (fun c_4 => ?_) (fun c_4 => ?_)
    · exact absurd c_4 (by decide)
    · refine lv_iconst (v := (-1 : Int32)) hx hb dX9_would_7 (by decide) ?_
      exact q_zret (v := (-1 : Int32)) hx hb hr hlocks (rfl) (show (-1 : Int32) = A_would T n ss ow w from by rw [A_would]; rw [if_neg (q_eitN hv).1, if_neg (q_eitN hv).2]) dX9_would_8

set_option maxHeartbeats 4000000 in
set_option maxRecDepth 100000 in
theorem c_X9_behind (l : Launch) {D : va_G} {cI cB cZ : ClassId} {xa : Nat} {tx : Nat} {rd : Nat} {tl : Nat} {hm : Nat} {hc : Nat} {hx0 : Nat} {hn : Nat} {un : Nat} {kp : Nat} {sg : Nat} {ho : Nat} {hp : Nat} {hh : Nat} {ht : Nat} {n : Nat} {fo : Int32} {ss : Int32} {tr : Nat → Int32} {hom : Nat → Int32} {T : Nat → Nat → Nat} {hq : Nat} {ow : Nat} {w : Int32} {t : Bool} (hT : q_Tr T n tr) (hB : q_Bd T n) (hH : q_Hm T n hom) (how : ow < 2 ^ n) : Met l yX9_behind wsX9_behind ({ frames := 5, cells := 0, slots := 0, locals := 123 } : Room) (va_Pc [.ref xa, .int w, .int (bI t)] (q_B D (q_tys cI cB cZ) [(xa, .inr (9, [.ref tx, .ref rd, .ref tl, .ref hm, .ref hc, .ref hx0, .ref hn, .ref un, .ref kp, .ref sg])), (hc, .inr (1, [.ref hm, .ref ho])), (hm, .inr (3, [.ref hp, .ref hh])), (hp, .inr (4, [.ref ht, .int (nI n), .int fo, .int ss])), (ht, .inl (cI, 35, .inl tr)), (hh, .inl (cI, 128, .inl hom)), (hn, .inr (2, [.ref hq, .int (nI ow)]))])) (vp_Si (fun r => r = A_behind T n ss ow w t)) 0 0 (fun _ => False) := by
  refine Met.ofW (cc := cX9_behind) (maxL := 3) (ret := (some .int)) (by decide) rfl ?_
  intro p e s m args below meth c s₁ B hml hv
  obtain ⟨rfl, hP, hK⟩ := hv
  have hx := B.exec
  have hb := B.bytes
  have hr := B.returns
  have hts := atoms_spec (ws := wsX9_behind) B.pre
  have hown : s.vm.findClass RX9 = some m.cls := findClass_of_methodNamed B.named
  have hlocks := B.notSynchronized
  have hin2 : ∀ w ∈ u_ws RX2 TX2 2, w ∈ wsX9_behind := by decide +kernel
  have hin9 : ∀ w ∈ u_ws RX9 TX9 10, w ∈ wsX9_behind := by decide +kernel
  have hP : va_P D vwCl [(xa, .inr (9, [.ref tx, .ref rd, .ref tl, .ref hm, .ref hc, .ref hx0, .ref hn, .ref un, .ref kp, .ref sg])), (hc, .inr (1, [.ref hm, .ref ho])), (hm, .inr (3, [.ref hp, .ref hh])), (hp, .inr (4, [.ref ht, .int (nI n), .int fo, .int ss])), (ht, .inl (cI, 35, .inl tr)), (hh, .inl (cI, 128, .inl hom)), (hn, .inr (2, [.ref hq, .int (nI ow)]))] s.heap := hP
  have hl := lv_entry ([.ref xa, .int w, .int (bI t)]) (n := 3) (Nat.le_of_ble_eq_true rfl)
  rw [lg_entry_eq]
  generalize (lg_sl ([.ref xa, .int w, .int (bI t)]) ++ List.replicate (3 - (lg_sl ([.ref xa, .int w, .int (bI t)])).length) Slot.unset).toArray = ls at hl ⊢
  have hl : lv_has ls 3 [(0, .ref xa), (1, .int w), (2, .int (bI t))] := hl
  have hn7 := hB.1
  have hp2 : 2 ^ n ≤ 128 := q_p2 hB.1
  have ho128 := q_S128 hB how
  rcases hw : q_ix (61) w with _ | k
  · refine lv_iload_n hx hb dX9_behind_0 rfl (lv_at hl 1 rfl) ?_
    refine lv_if_lt (x := w) (tgt := 10) hx hb dX9_behind_1 (by decide) (fun c_1 => ?_) (fun c_1 => ?_)
    · refine lv_iconst (v := (-1 : Int32)) hx hb dX9_behind_10 (by decide) ?_
      exact q_zret (v := (-1 : Int32)) hx hb hr hlocks (rfl) (show (-1 : Int32) = A_behind T n ss ow w t from by simp only [A_behind, hw]) dX9_behind_11
    · refine lv_iload_n hx hb dX9_behind_4 rfl (lv_at hl 1 rfl) ?_
      refine lv_bipush (v := nI 60) hx hb dX9_behind_5 (by decide) ?_
      refine lv_icmp_le (x := w) (y := nI 60) (tgt := 12) hx hb dX9_behind_7 (by decide) (fun c_7 => ?_) (fun c_7 => ?_)
      · exact absurd c_7 ((fun z => q_ixd (k := 60) (by decide) rfl hw c_1 z))
      · refine lv_iconst (v := (-1 : Int32)) hx hb dX9_behind_10 (by decide) ?_
        exact q_zret (v := (-1 : Int32)) hx hb hr hlocks (rfl) (show (-1 : Int32) = A_behind T n ss ow w t from by simp only [A_behind, hw]) dX9_behind_11
  · have hwe := q_ixS hw
    have hl : lv_has ls 3 [(0, .ref xa), (1, .int (nI k)), (2, .int (bI t))] := by rw [← show w = nI k from hwe.1]; exact hl
    refine lv_iload_n hx hb dX9_behind_0 rfl (lv_at hl 1 rfl) ?_
    refine q_zlt (tgt := 10) hx hb dX9_behind_1 (by decide) (by omega) (fun c_1 => ?_) (fun c_1 => ?_)
    · exact absurd c_1 (Nat.not_lt_zero _)
    · refine lv_iload_n hx hb dX9_behind_4 rfl (lv_at hl 1 rfl) ?_
      refine lv_bipush (v := nI 60) hx hb dX9_behind_5 (by decide) ?_
      refine q_nle (tgt := 12) hx hb dX9_behind_7 (by decide) (by omega) (by omega) (fun c_7 => ?_) (fun c_7 => ?_)
      · refine lv_aload_n hx hb dX9_behind_12 rfl (lv_at hl 0 rfl) ?_
        refine q_get (ci := 9) (CC := RX9) (T := TX9) (N := 10) (v := .ref hc) hx hb hts hin9 hown hK hP 0 rfl rfl 4 (by decide) (hts (.fieldLink RX9 42 "DearAsMany" "course" "LDearAsMany$Course;") (by decide +kernel)) rfl rfl dX9_behind_13 ?_
        refine lv_aload_n hx hb dX9_behind_16 rfl (lv_at hl 0 rfl) ?_
        refine q_get (ci := 9) (CC := RX9) (T := TX9) (N := 10) (v := .ref hn) hx hb hts hin9 hown hK hP 0 rfl rfl 6 (by decide) (hts (.fieldLink RX9 56 "DearAsMany" "now" "LDearAsMany$Holding;") (by decide +kernel)) rfl rfl dX9_behind_17 ?_
        refine q_get (ci := 2) (CC := RX2) (T := TX2) (N := 2) (v := .int (nI ow)) hx hb hts hin2 hown hK hP 6 rfl rfl 1 (by decide) (hts (.fieldLink RX9 135 "DearAsMany$Holding" "owners" "I") (by decide +kernel)) rfl rfl dX9_behind_20 ?_
        refine lv_iload_n hx hb dX9_behind_23 rfl (lv_at hl 1 rfl) ?_
        refine lv_iload_n hx hb dX9_behind_24 rfl (lv_at hl 2 rfl) ?_
        refine q_vi (As := [.int (nI ow), .int (nI k), .int (bI t)]) (rest := []) ⟨hx, hb, hml, hown, hts⟩ (c_X1_ownersBehind l (D := D) (cI := cI) (cB := cB) (cZ := cZ) (hc := hc) (ho := ho) (hm := hm) (hp := hp) (hh := hh) (ht := ht) (n := n) (fo := fo) (ss := ss) (tr := tr) (hom := hom) (T := T) (S := ow) (q := k) (t := t) (by first | assumption | exact Nat.zero_le _ | omega) (by first | assumption | exact Nat.zero_le _ | omega) (by first | assumption | exact Nat.zero_le _ | omega) (how) (by omega)) (cwV 3 hts gX9_behind_X1_ownersBehind rfl rfl rfl (by decide +kernel) ⟨Nat.le_of_ble_eq_true rfl, Nat.le_of_ble_eq_true rfl⟩) hK hP [1, 2, 3, 4, 5] rfl 1 1 rfl rfl rfl rfl hl.1 rfl (Nat.le_of_ble_eq_true rfl) dX9_behind_25 ⟨Nat.zero_le _, Nat.zero_le _⟩ (fun r_25 hr_25 => ?_)
        have hr_25 : nI (q_it (q_rd T n ss t) k ow) = r_25 := (show r_25 = nI (q_it (q_rd T n ss t) k ow) from hr_25).symm
        subst hr_25
        exact q_zret (v := nI (q_it (q_rd T n ss t) k ow)) hx hb hr hlocks (rfl) (show nI (q_it (q_rd T n ss t) k ow) = A_behind T n ss ow w t from by simp only [A_behind, hw]) dX9_behind_28
      · exfalso; omega

set_option maxHeartbeats 4000000 in
set_option maxRecDepth 100000 in
theorem c_X9_rest (l : Launch) {D : va_G} {cI cB cZ : ClassId} {xa : Nat} {tx : Nat} {rd : Nat} {tl : Nat} {hm : Nat} {hc : Nat} {hx0 : Nat} {hn : Nat} {un : Nat} {kp : Nat} {sg : Nat} {ho : Nat} {hp : Nat} {hh : Nat} {ht : Nat} {n : Nat} {fo : Int32} {ss : Int32} {tr : Nat → Int32} {hom : Nat → Int32} {T : Nat → Nat → Nat} {hq : Nat} {ow : Nat} {w : Int32} {t : Bool} (hT : q_Tr T n tr) (hB : q_Bd T n) (hH : q_Hm T n hom) (how : ow < 2 ^ n) : Met l yX9_rest wsX9_rest ({ frames := 6, cells := 0, slots := 0, locals := 149 } : Room) (va_Pc [.ref xa, .int (bI t), .int w] (q_B D (q_tys cI cB cZ) [(xa, .inr (9, [.ref tx, .ref rd, .ref tl, .ref hm, .ref hc, .ref hx0, .ref hn, .ref un, .ref kp, .ref sg])), (hc, .inr (1, [.ref hm, .ref ho])), (hm, .inr (3, [.ref hp, .ref hh])), (hp, .inr (4, [.ref ht, .int (nI n), .int fo, .int ss])), (ht, .inl (cI, 35, .inl tr)), (hh, .inl (cI, 128, .inl hom)), (hn, .inr (2, [.ref hq, .int (nI ow)]))])) (vp_Si (fun r => r = A_rest T n ss ow t w)) 0 0 (fun _ => False) := by
  refine Met.ofW (cc := cX9_rest) (maxL := 3) (ret := (some .int)) (by decide) rfl ?_
  intro p e s m args below meth c s₁ B hml hv
  obtain ⟨rfl, hP, hK⟩ := hv
  have hx := B.exec
  have hb := B.bytes
  have hr := B.returns
  have hts := atoms_spec (ws := wsX9_rest) B.pre
  have hown : s.vm.findClass RX9 = some m.cls := findClass_of_methodNamed B.named
  have hlocks := B.notSynchronized
  have hin2 : ∀ w ∈ u_ws RX2 TX2 2, w ∈ wsX9_rest := by decide +kernel
  have hin9 : ∀ w ∈ u_ws RX9 TX9 10, w ∈ wsX9_rest := by decide +kernel
  have hP : va_P D vwCl [(xa, .inr (9, [.ref tx, .ref rd, .ref tl, .ref hm, .ref hc, .ref hx0, .ref hn, .ref un, .ref kp, .ref sg])), (hc, .inr (1, [.ref hm, .ref ho])), (hm, .inr (3, [.ref hp, .ref hh])), (hp, .inr (4, [.ref ht, .int (nI n), .int fo, .int ss])), (ht, .inl (cI, 35, .inl tr)), (hh, .inl (cI, 128, .inl hom)), (hn, .inr (2, [.ref hq, .int (nI ow)]))] s.heap := hP
  have hl := lv_entry ([.ref xa, .int (bI t), .int w]) (n := 3) (Nat.le_of_ble_eq_true rfl)
  rw [lg_entry_eq]
  generalize (lg_sl ([.ref xa, .int (bI t), .int w]) ++ List.replicate (3 - (lg_sl ([.ref xa, .int (bI t), .int w])).length) Slot.unset).toArray = ls at hl ⊢
  have hl : lv_has ls 3 [(0, .ref xa), (1, .int (bI t)), (2, .int w)] := hl
  have hn7 := hB.1
  have hp2 : 2 ^ n ≤ 128 := q_p2 hB.1
  have ho128 := q_S128 hB how
  rcases q_eitC w with hv | hv | hv
  · have hl : lv_has ls 3 [(0, .ref xa), (1, .int (bI t)), (2, .int (nI 0))] := by rw [← show w = nI 0 from hv]; exact hl
    refine lv_iload_n hx hb dX9_rest_0 rfl (lv_at hl 2 rfl) ?_
    refine q_si (As := [.int (nI 0)]) (rest := []) ⟨hx, hb, hml, hown, hts⟩ (c_X9_isEither l (D := D) (cI := cI) (cB := cB) (cZ := cZ) (w := nI 0) ) (va_cwS 1 hts gX9_rest_X9_isEither rfl rfl rfl (by decide +kernel) ⟨Nat.le_of_ble_eq_true rfl, Nat.le_of_ble_eq_true rfl⟩) hK hP [] rfl rfl hl.1 rfl (Nat.le_of_ble_eq_true rfl) dX9_rest_1 ⟨Nat.zero_le _, Nat.zero_le _⟩ (fun r_1 hr_1 => ?_)
    have hr_1 : bI true = r_1 := (Eq.trans (show r_1 = bI (q_eit (nI 0)) from hr_1) (by decide)).symm
    subst hr_1
    refine q_bne (tgt := 9) hx hb dX9_rest_4 (by decide) (fun c_4 => ?_) (fun c_4 => ?_)
    · refine lv_iload_n hx hb dX9_rest_9 rfl (lv_at hl 2 rfl) ?_
      refine q_zne (tgt := 31) hx hb dX9_rest_10 (by decide) (by omega) (fun c_10 => ?_) (fun c_10 => ?_)
      · exact absurd c_10 (by decide)
      · refine lv_aload_n hx hb dX9_rest_13 rfl (lv_at hl 0 rfl) ?_
        refine q_get (ci := 9) (CC := RX9) (T := TX9) (N := 10) (v := .ref hc) hx hb hts hin9 hown hK hP 0 rfl rfl 4 (by decide) (hts (.fieldLink RX9 42 "DearAsMany" "course" "LDearAsMany$Course;") (by decide +kernel)) rfl rfl dX9_rest_14 ?_
        refine lv_aload_n hx hb dX9_rest_17 rfl (lv_at hl 0 rfl) ?_
        refine q_get (ci := 9) (CC := RX9) (T := TX9) (N := 10) (v := .ref hn) hx hb hts hin9 hown hK hP 0 rfl rfl 6 (by decide) (hts (.fieldLink RX9 56 "DearAsMany" "now" "LDearAsMany$Holding;") (by decide +kernel)) rfl rfl dX9_rest_18 ?_
        refine q_get (ci := 2) (CC := RX2) (T := TX2) (N := 2) (v := .int (nI ow)) hx hb hts hin2 hown hK hP 6 rfl rfl 1 (by decide) (hts (.fieldLink RX9 135 "DearAsMany$Holding" "owners" "I") (by decide +kernel)) rfl rfl dX9_rest_21 ?_
        refine lv_iload_n hx hb dX9_rest_24 rfl (lv_at hl 1 rfl) ?_
        refine q_vi (As := [.int (nI ow), .int (bI t)]) (rest := []) ⟨hx, hb, hml, hown, hts⟩ (c_X1_roundsToRest l (D := D) (cI := cI) (cB := cB) (cZ := cZ) (hc := hc) (ho := ho) (hm := hm) (hp := hp) (hh := hh) (ht := ht) (n := n) (fo := fo) (ss := ss) (tr := tr) (hom := hom) (T := T) (S := ow) (t := t) (by first | assumption | exact Nat.zero_le _ | omega) (by first | assumption | exact Nat.zero_le _ | omega) (by first | assumption | exact Nat.zero_le _ | omega) (how)) (cwV 2 hts gX9_rest_X1_roundsToRest rfl rfl rfl (by decide +kernel) ⟨Nat.le_of_ble_eq_true rfl, Nat.le_of_ble_eq_true rfl⟩) hK hP [1, 2, 3, 4, 5] rfl 1 1 rfl rfl rfl rfl hl.1 rfl (Nat.le_of_ble_eq_true rfl) dX9_rest_25 ⟨Nat.zero_le _, Nat.zero_le _⟩ (fun r_25 hr_25 => ?_)
        have hr_25 : q_rr (q_rd T n ss t) 128 0 ow = r_25 := (show r_25 = q_rr (q_rd T n ss t) 128 0 ow from hr_25).symm
        subst hr_25
        refine lv_goto (tgt := 46) hx hb dX9_rest_28 (by decide) ?_
        exact q_zret (v := q_rr (q_rd T n ss t) 128 0 ow) hx hb hr hlocks (rfl) (show q_rr (q_rd T n ss t) 128 0 ow = A_rest T n ss ow t w from by rw [A_rest]; rw [if_pos hv]) dX9_rest_46
    · exact absurd c_4 (by decide)
  · have hl : lv_has ls 3 [(0, .ref xa), (1, .int (bI t)), (2, .int (nI 1))] := by rw [← show w = nI 1 from hv]; exact hl
    refine lv_iload_n hx hb dX9_rest_0 rfl (lv_at hl 2 rfl) ?_
    refine q_si (As := [.int (nI 1)]) (rest := []) ⟨hx, hb, hml, hown, hts⟩ (c_X9_isEither l (D := D) (cI := cI) (cB := cB) (cZ := cZ) (w := nI 1) ) (va_cwS 1 hts gX9_rest_X9_isEither rfl rfl rfl (by decide +kernel) ⟨Nat.le_of_ble_eq_true rfl, Nat.le_of_ble_eq_true rfl⟩) hK hP [] rfl rfl hl.1 rfl (Nat.le_of_ble_eq_true rfl) dX9_rest_1 ⟨Nat.zero_le _, Nat.zero_le _⟩ (fun r_1 hr_1 => ?_)
    have hr_1 : bI true = r_1 := (Eq.trans (show r_1 = bI (q_eit (nI 1)) from hr_1) (by decide)).symm
    subst hr_1
    refine q_bne (tgt := 9) hx hb dX9_rest_4 (by decide) (fun c_4 => ?_) (fun c_4 => ?_)
    · refine lv_iload_n hx hb dX9_rest_9 rfl (lv_at hl 2 rfl) ?_
      refine q_zne (tgt := 31) hx hb dX9_rest_10 (by decide) (by omega) (fun c_10 => ?_) (fun c_10 => ?_)
      · refine lv_aload_n hx hb dX9_rest_31 rfl (lv_at hl 0 rfl) ?_
        refine q_get (ci := 9) (CC := RX9) (T := TX9) (N := 10) (v := .ref hc) hx hb hts hin9 hown hK hP 0 rfl rfl 4 (by decide) (hts (.fieldLink RX9 42 "DearAsMany" "course" "LDearAsMany$Course;") (by decide +kernel)) rfl rfl dX9_rest_32 ?_
        refine lv_aload_n hx hb dX9_rest_35 rfl (lv_at hl 0 rfl) ?_
        refine q_get (ci := 9) (CC := RX9) (T := TX9) (N := 10) (v := .ref hn) hx hb hts hin9 hown hK hP 0 rfl rfl 6 (by decide) (hts (.fieldLink RX9 56 "DearAsMany" "now" "LDearAsMany$Holding;") (by decide +kernel)) rfl rfl dX9_rest_36 ?_
        refine q_get (ci := 2) (CC := RX2) (T := TX2) (N := 2) (v := .int (nI ow)) hx hb hts hin2 hown hK hP 6 rfl rfl 1 (by decide) (hts (.fieldLink RX9 135 "DearAsMany$Holding" "owners" "I") (by decide +kernel)) rfl rfl dX9_rest_39 ?_
        refine lv_iload_n hx hb dX9_rest_42 rfl (lv_at hl 1 rfl) ?_
        refine q_vi (As := [.int (nI ow), .int (bI t)]) (rest := []) ⟨hx, hb, hml, hown, hts⟩ (c_X1_roundsOfSwing l (D := D) (cI := cI) (cB := cB) (cZ := cZ) (hc := hc) (ho := ho) (hm := hm) (hp := hp) (hh := hh) (ht := ht) (n := n) (fo := fo) (ss := ss) (tr := tr) (hom := hom) (T := T) (S := ow) (t := t) (by first | assumption | exact Nat.zero_le _ | omega) (by first | assumption | exact Nat.zero_le _ | omega) (by first | assumption | exact Nat.zero_le _ | omega) (how)) (cwV 2 hts gX9_rest_X1_roundsOfSwing rfl rfl rfl (by decide +kernel) ⟨Nat.le_of_ble_eq_true rfl, Nat.le_of_ble_eq_true rfl⟩) hK hP [1, 2, 3, 4, 5] rfl 1 1 rfl rfl rfl rfl hl.1 rfl (Nat.le_of_ble_eq_true rfl) dX9_rest_43 ⟨Nat.zero_le _, Nat.zero_le _⟩ (fun r_43 hr_43 => ?_)
        have hr_43 : nI (q_sg (q_rd T n ss t) ow) = r_43 := (show r_43 = nI (q_sg (q_rd T n ss t) ow) from hr_43).symm
        subst hr_43
        exact q_zret (v := nI (q_sg (q_rd T n ss t) ow)) hx hb hr hlocks (rfl) (show nI (q_sg (q_rd T n ss t) ow) = A_rest T n ss ow t w from by rw [A_rest]; rw [if_neg (by rw [hv]; decide), if_pos hv]) dX9_rest_46
      · exact absurd c_10 (by decide)
    · exact absurd c_4 (by decide)
  · refine lv_iload_n hx hb dX9_rest_0 rfl (lv_at hl 2 rfl) ?_
    refine q_si (As := [.int w]) (rest := []) ⟨hx, hb, hml, hown, hts⟩ (c_X9_isEither l (D := D) (cI := cI) (cB := cB) (cZ := cZ) (w := w) ) (va_cwS 1 hts gX9_rest_X9_isEither rfl rfl rfl (by decide +kernel) ⟨Nat.le_of_ble_eq_true rfl, Nat.le_of_ble_eq_true rfl⟩) hK hP [] rfl rfl hl.1 rfl (Nat.le_of_ble_eq_true rfl) dX9_rest_1 ⟨Nat.zero_le _, Nat.zero_le _⟩ (fun r_1 hr_1 => ?_)
    have hr_1 : bI false = r_1 := (Eq.trans (show r_1 = bI (q_eit w) from hr_1) (by rw [hv])).symm
    subst hr_1
    refine q_bne (tgt := 9) hx hb dX9_rest_4 (by decide) (fun c_4 => ?_) (fun c_4 => ?_)
    · exact absurd c_4 (by decide)
    · refine lv_iconst (v := (-1 : Int32)) hx hb dX9_rest_7 (by decide) ?_
      exact q_zret (v := (-1 : Int32)) hx hb hr hlocks (rfl) (show (-1 : Int32) = A_rest T n ss ow t w from by rw [A_rest]; rw [if_neg (q_eitN hv).1, if_neg (q_eitN hv).2]) dX9_rest_8

set_option maxHeartbeats 4000000 in
set_option maxRecDepth 100000 in
theorem c_X9_rests (l : Launch) {D : va_G} {cI cB cZ : ClassId} {xa : Nat} {tx : Nat} {rd : Nat} {tl : Nat} {hm : Nat} {hc : Nat} {hx0 : Nat} {hn : Nat} {un : Nat} {kp : Nat} {sg : Nat} {ho : Nat} {hp : Nat} {hh : Nat} {ht : Nat} {n : Nat} {fo : Int32} {ss : Int32} {tr : Nat → Int32} {hom : Nat → Int32} {T : Nat → Nat → Nat} {w : Int32} (hT : q_Tr T n tr) (hB : q_Bd T n) (hH : q_Hm T n hom) : Met l yX9_rests wsX9_rests ({ frames := 6, cells := 0, slots := 0, locals := 140 } : Room) (va_Pc [.ref xa, .int w] (q_B D (q_tys cI cB cZ) [(xa, .inr (9, [.ref tx, .ref rd, .ref tl, .ref hm, .ref hc, .ref hx0, .ref hn, .ref un, .ref kp, .ref sg])), (hc, .inr (1, [.ref hm, .ref ho])), (hm, .inr (3, [.ref hp, .ref hh])), (hp, .inr (4, [.ref ht, .int (nI n), .int fo, .int ss])), (ht, .inl (cI, 35, .inl tr)), (hh, .inl (cI, 128, .inl hom))])) (vp_Si (fun r => r = A_rests T n ss w)) 0 0 (fun _ => False) := by
  refine Met.ofW (cc := cX9_rests) (maxL := 2) (ret := (some .int)) (by decide) rfl ?_
  intro p e s m args below meth c s₁ B hml hv
  obtain ⟨rfl, hP, hK⟩ := hv
  have hx := B.exec
  have hb := B.bytes
  have hr := B.returns
  have hts := atoms_spec (ws := wsX9_rests) B.pre
  have hown : s.vm.findClass RX9 = some m.cls := findClass_of_methodNamed B.named
  have hlocks := B.notSynchronized
  have hin9 : ∀ w ∈ u_ws RX9 TX9 10, w ∈ wsX9_rests := by decide +kernel
  have hP : va_P D vwCl [(xa, .inr (9, [.ref tx, .ref rd, .ref tl, .ref hm, .ref hc, .ref hx0, .ref hn, .ref un, .ref kp, .ref sg])), (hc, .inr (1, [.ref hm, .ref ho])), (hm, .inr (3, [.ref hp, .ref hh])), (hp, .inr (4, [.ref ht, .int (nI n), .int fo, .int ss])), (ht, .inl (cI, 35, .inl tr)), (hh, .inl (cI, 128, .inl hom))] s.heap := hP
  have hl := lv_entry ([.ref xa, .int w]) (n := 2) (Nat.le_of_ble_eq_true rfl)
  rw [lg_entry_eq]
  generalize (lg_sl ([.ref xa, .int w]) ++ List.replicate (2 - (lg_sl ([.ref xa, .int w])).length) Slot.unset).toArray = ls at hl ⊢
  have hl : lv_has ls 2 [(0, .ref xa), (1, .int w)] := hl
  have hn7 := hB.1
  have hp2 : 2 ^ n ≤ 128 := q_p2 hB.1
  rcases hw : q_ix (2147483648) w with _ | k
  · refine lv_iload_n hx hb dX9_rests_0 rfl (lv_at hl 1 rfl) ?_
    refine lv_iconst (v := (-1 : Int32)) hx hb dX9_rests_1 (by decide) ?_
    refine lv_icmp_ge (x := w) (y := (-1 : Int32)) (tgt := 7) hx hb dX9_rests_2 (by decide) (fun c_2 => ?_) (fun c_2 => ?_)
    · refine lv_iload_n hx hb dX9_rests_7 rfl (lv_at hl 1 rfl) ?_
      refine lv_iconst (v := (-1 : Int32)) hx hb dX9_rests_8 (by decide) ?_
      refine lv_icmp_ne (x := w) (y := (-1 : Int32)) (tgt := 22) hx hb dX9_rests_9 (by decide) (fun c_9 => ?_) (fun c_9 => ?_)
      · exact absurd c_9 ((fun z => z (q_neg1 (q_ixneg hw) c_2)))
      · refine lv_aload_n hx hb dX9_rests_12 rfl (lv_at hl 0 rfl) ?_
        refine q_get (ci := 9) (CC := RX9) (T := TX9) (N := 10) (v := .ref hc) hx hb hts hin9 hown hK hP 0 rfl rfl 4 (by decide) (hts (.fieldLink RX9 42 "DearAsMany" "course" "LDearAsMany$Course;") (by decide +kernel)) rfl rfl dX9_rests_13 ?_
        refine q_vi (As := []) (rest := []) ⟨hx, hb, hml, hown, hts⟩ (c_X1_countRests l (D := D) (cI := cI) (cB := cB) (cZ := cZ) (hc := hc) (ho := ho) (hm := hm) (hp := hp) (hh := hh) (ht := ht) (n := n) (fo := fo) (ss := ss) (tr := tr) (hom := hom) (T := T) (by first | assumption | exact Nat.zero_le _ | omega) (by first | assumption | exact Nat.zero_le _ | omega) (by first | assumption | exact Nat.zero_le _ | omega)) (cwV 0 hts gX9_rests_X1_countRests rfl rfl rfl (by decide +kernel) ⟨Nat.le_of_ble_eq_true rfl, Nat.le_of_ble_eq_true rfl⟩) hK hP [1, 2, 3, 4, 5] rfl 1 1 rfl rfl rfl rfl hl.1 rfl (Nat.le_of_ble_eq_true rfl) dX9_rests_16 ⟨Nat.zero_le _, Nat.zero_le _⟩ (fun r_16 hr_16 => ?_)
        have hr_16 : nI (q_cr (q_rs T n ss) (2 ^ n)) = r_16 := (show r_16 = nI (q_cr (q_rs T n ss) (2 ^ n)) from hr_16).symm
        subst hr_16
        refine lv_goto (tgt := 30) hx hb dX9_rests_19 (by decide) ?_
        exact q_zret (v := nI (q_cr (q_rs T n ss) (2 ^ n))) hx hb hr hlocks (rfl) (show nI (q_cr (q_rs T n ss) (2 ^ n)) = A_rests T n ss w from by simp only [A_rests, hw]; rw [if_pos c_9]) dX9_rests_30
    · refine lv_iconst (v := (-1 : Int32)) hx hb dX9_rests_5 (by decide) ?_
      exact q_zret (v := (-1 : Int32)) hx hb hr hlocks (rfl) (show (-1 : Int32) = A_rests T n ss w from by simp only [A_rests, hw]; rw [if_neg (fun z => c_2 (by rw [z]; exact Int32.le_refl _))]) dX9_rests_6
  · have hwe := q_ixS hw
    have hl : lv_has ls 2 [(0, .ref xa), (1, .int (nI k))] := by rw [← show w = nI k from hwe.1]; exact hl
    refine lv_iload_n hx hb dX9_rests_0 rfl (lv_at hl 1 rfl) ?_
    refine lv_iconst (v := (-1 : Int32)) hx hb dX9_rests_1 (by decide) ?_
    refine lv_icmp_ge (x := nI k) (y := (-1 : Int32)) (tgt := 7) hx hb dX9_rests_2 (by decide) (fun c_2 => ?_) (fun c_2 => ?_)
    · refine lv_iload_n hx hb dX9_rests_7 rfl (lv_at hl 1 rfl) ?_
      refine lv_iconst (v := (-1 : Int32)) hx hb dX9_rests_8 (by decide) ?_
      refine lv_icmp_ne (x := nI k) (y := (-1 : Int32)) (tgt := 22) hx hb dX9_rests_9 (by decide) (fun c_9 => ?_) (fun c_9 => ?_)
      · refine lv_aload_n hx hb dX9_rests_22 rfl (lv_at hl 0 rfl) ?_
        refine q_get (ci := 9) (CC := RX9) (T := TX9) (N := 10) (v := .ref hc) hx hb hts hin9 hown hK hP 0 rfl rfl 4 (by decide) (hts (.fieldLink RX9 42 "DearAsMany" "course" "LDearAsMany$Course;") (by decide +kernel)) rfl rfl dX9_rests_23 ?_
        refine lv_iload_n hx hb dX9_rests_26 rfl (lv_at hl 1 rfl) ?_
        refine q_vi (As := [.int (nI k)]) (rest := []) ⟨hx, hb, hml, hown, hts⟩ (c_X1_restAt l (D := D) (cI := cI) (cB := cB) (cZ := cZ) (hc := hc) (ho := ho) (hm := hm) (hp := hp) (hh := hh) (ht := ht) (n := n) (fo := fo) (ss := ss) (tr := tr) (hom := hom) (T := T) (i := k) (by first | assumption | exact Nat.zero_le _ | omega) (by first | assumption | exact Nat.zero_le _ | omega) (by first | assumption | exact Nat.zero_le _ | omega) (by first | assumption | exact Nat.zero_le _ | omega)) (cwV 1 hts gX9_rests_X1_restAt rfl rfl rfl (by decide +kernel) ⟨Nat.le_of_ble_eq_true rfl, Nat.le_of_ble_eq_true rfl⟩) hK hP [1, 2, 3, 4, 5] rfl 1 1 rfl rfl rfl rfl hl.1 rfl (Nat.le_of_ble_eq_true rfl) dX9_rests_27 ⟨Nat.zero_le _, Nat.zero_le _⟩ (fun r_27 hr_27 => ?_)
        have hr_27 : q_ra (q_rs T n ss) k (2 ^ n) 0 0 = r_27 := (show r_27 = q_ra (q_rs T n ss) k (2 ^ n) 0 0 from hr_27).symm
        subst hr_27
        exact q_zret (v := q_ra (q_rs T n ss) k (2 ^ n) 0 0) hx hb hr hlocks (rfl) (show q_ra (q_rs T n ss) k (2 ^ n) 0 0 = A_rests T n ss w from by simp only [A_rests, hw]) dX9_rests_30
      · exact absurd c_9 ((q_m1ne hwe.2))
    · exact absurd c_2 ((fun z => z (q_m1le hwe.2)))

set_option maxHeartbeats 4000000 in
set_option maxRecDepth 100000 in
theorem c_X9_tip (l : Launch) {D : va_G} {cI cB cZ : ClassId} {xa : Nat} {tx : Nat} {rd : Nat} {tl : Nat} {hm : Nat} {hc : Nat} {hx0 : Nat} {hn : Nat} {un : Nat} {kp : Nat} {sg : Nat} {ho : Nat} {hp : Nat} {hh : Nat} {ht : Nat} {n : Nat} {fo : Int32} {ss : Int32} {tr : Nat → Int32} {hom : Nat → Int32} {T : Nat → Nat → Nat} {hq : Nat} {ow : Nat} {w : Int32} {v : Int32} {t : Bool} {on : Nat → Int32} {zz : Nat} (hT : q_Tr T n tr) (hB : q_Bd T n) (hH : q_Hm T n hom) (how : ow < 2 ^ n) : Met l yX9_tip wsX9_tip ({ frames := 6, cells := 0, slots := 0, locals := 148 } : Room) (va_Pc [.ref xa, .int w, .int (bI t), .int v] (q_M D (q_tys cI cB cZ) [(xa, .inr (9, [.ref tx, .ref rd, .ref tl, .ref hm, .ref hc, .ref hx0, .ref hn, .ref un, .ref kp, .ref sg])), (hc, .inr (1, [.ref hm, .ref ho])), (hm, .inr (3, [.ref hp, .ref hh])), (hp, .inr (4, [.ref ht, .int (nI n), .int fo, .int ss])), (ht, .inl (cI, 35, .inl tr)), (hh, .inl (cI, 128, .inl hom)), (ho, .inl (cI, 128, .inl on)), (hn, .inr (2, [.ref hq, .int (nI ow)]))] zz)) (va_Qi (S := (Nat → Int32)) (fun r u => r = A_tip T n ss ow w t v ∧ True) (fun u t => va_P D vwCl ((fun u => [(xa, .inr (9, [.ref tx, .ref rd, .ref tl, .ref hm, .ref hc, .ref hx0, .ref hn, .ref un, .ref kp, .ref sg])), (hc, .inr (1, [.ref hm, .ref ho])), (hm, .inr (3, [.ref hp, .ref hh])), (hp, .inr (4, [.ref ht, .int (nI n), .int fo, .int ss])), (ht, .inl (cI, 35, .inl tr)), (hh, .inl (cI, 128, .inl hom)), (ho, .inl (cI, 128, .inl u)), (hn, .inr (2, [.ref hq, .int (nI ow)]))]) u) t.heap) (va_A [(xa, .inr (9, [.ref tx, .ref rd, .ref tl, .ref hm, .ref hc, .ref hx0, .ref hn, .ref un, .ref kp, .ref sg])), (hc, .inr (1, [.ref hm, .ref ho])), (hm, .inr (3, [.ref hp, .ref hh])), (hp, .inr (4, [.ref ht, .int (nI n), .int fo, .int ss])), (ht, .inl (cI, 35, .inl tr)), (hh, .inl (cI, 128, .inl hom)), (ho, .inl (cI, 128, .inl on)), (hn, .inr (2, [.ref hq, .int (nI ow)]))] zz)) 0 0 (va_A [(xa, .inr (9, [.ref tx, .ref rd, .ref tl, .ref hm, .ref hc, .ref hx0, .ref hn, .ref un, .ref kp, .ref sg])), (hc, .inr (1, [.ref hm, .ref ho])), (hm, .inr (3, [.ref hp, .ref hh])), (hp, .inr (4, [.ref ht, .int (nI n), .int fo, .int ss])), (ht, .inl (cI, 35, .inl tr)), (hh, .inl (cI, 128, .inl hom)), (ho, .inl (cI, 128, .inl on)), (hn, .inr (2, [.ref hq, .int (nI ow)]))] zz) := by
  refine Met.ofW (cc := cX9_tip) (maxL := 5) (ret := (some .int)) (by decide) rfl ?_
  intro p e s m args below meth c s₁ B hml hv
  obtain ⟨rfl, hsz, hP, hK, hD0⟩ := hv
  have hx := B.exec
  have hb := B.bytes
  have hr := B.returns
  have hts := atoms_spec (ws := wsX9_tip) B.pre
  have hown : s.vm.findClass RX9 = some m.cls := findClass_of_methodNamed B.named
  have hlocks := B.notSynchronized
  have hin2 : ∀ w ∈ u_ws RX2 TX2 2, w ∈ wsX9_tip := by decide +kernel
  have hin9 : ∀ w ∈ u_ws RX9 TX9 10, w ∈ wsX9_tip := by decide +kernel
  subst hsz
  have hD := hD0.self (sz := s.heap.size)
  generalize hAe : va_A [(xa, .inr (9, [.ref tx, .ref rd, .ref tl, .ref hm, .ref hc, .ref hx0, .ref hn, .ref un, .ref kp, .ref sg])), (hc, .inr (1, [.ref hm, .ref ho])), (hm, .inr (3, [.ref hp, .ref hh])), (hp, .inr (4, [.ref ht, .int (nI n), .int fo, .int ss])), (ht, .inl (cI, 35, .inl tr)), (hh, .inl (cI, 128, .inl hom)), (ho, .inl (cI, 128, .inl on)), (hn, .inr (2, [.ref hq, .int (nI ow)]))] s.heap.size = A at hD ⊢
  have hA : ∀ q : Nat, s.heap.size ≤ q → A q := fun q h => by rw [← hAe]; exact Or.inr h
  have hS : va_S A s.heap s.heap [] := va_S.rf
  have hP : va_P D vwCl [(xa, .inr (9, [.ref tx, .ref rd, .ref tl, .ref hm, .ref hc, .ref hx0, .ref hn, .ref un, .ref kp, .ref sg])), (hc, .inr (1, [.ref hm, .ref ho])), (hm, .inr (3, [.ref hp, .ref hh])), (hp, .inr (4, [.ref ht, .int (nI n), .int fo, .int ss])), (ht, .inl (cI, 35, .inl tr)), (hh, .inl (cI, 128, .inl hom)), (ho, .inl (cI, 128, .inl on)), (hn, .inr (2, [.ref hq, .int (nI ow)]))] s.heap := hP
  have hl := lv_entry ([.ref xa, .int w, .int (bI t), .int v]) (n := 5) (Nat.le_of_ble_eq_true rfl)
  rw [lg_entry_eq]
  generalize (lg_sl ([.ref xa, .int w, .int (bI t), .int v]) ++ List.replicate (5 - (lg_sl ([.ref xa, .int w, .int (bI t), .int v])).length) Slot.unset).toArray = ls at hl ⊢
  have hl : lv_has ls 5 [(0, .ref xa), (1, .int w), (2, .int (bI t)), (3, .int v)] := hl
  have hn7 := hB.1
  have hp2 : 2 ^ n ≤ 128 := q_p2 hB.1
  have ho128 := q_S128 hB how
  rcases hw : q_ix (2 ^ n) w with _ | g0
  · refine lv_aload_n hx hb dX9_tip_0 rfl (lv_at hl 0 rfl) ?_
    refine lv_iload_n hx hb dX9_tip_1 rfl (lv_at hl 1 rfl) ?_
    refine q_vi (As := [.int w]) (rest := []) ⟨hx, hb, hml, hown, hts⟩ (c_X9_isSet l (D := D) (cI := cI) (cB := cB) (cZ := cZ) (xa := xa) (tx := tx) (rd := rd) (tl := tl) (hm := hm) (hc := hc) (hx0 := hx0) (hn := hn) (un := un) (kp := kp) (sg := sg) (hp := hp) (hh := hh) (ht := ht) (n := n) (fo := fo) (ss := ss) (w := w) (⟨by omega, by omega⟩)) (cwV 1 hts gX9_tip_X9_isSet rfl rfl rfl (by decide +kernel) ⟨Nat.le_of_ble_eq_true rfl, Nat.le_of_ble_eq_true rfl⟩) hK hP [0, 2, 3] rfl 0 9 rfl rfl rfl rfl hl.1 rfl (Nat.le_of_ble_eq_true rfl) dX9_tip_2 ⟨Nat.zero_le _, Nat.zero_le _⟩ (fun r_2 hr_2 => ?_)
    have hr_2 : bI false = r_2 := (Eq.trans (show r_2 = bI ((q_ix (2 ^ n) w).isSome) from hr_2) (by rw [hw]; rfl)).symm
    subst hr_2
    refine q_beq (tgt := 15) hx hb dX9_tip_5 (by decide) (fun c_5 => ?_) (fun c_5 => ?_)
    · refine lv_iconst (v := (-1 : Int32)) hx hb dX9_tip_15 (by decide) ?_
      exact q_mret (S := (Nat → Int32)) (v := (-1 : Int32)) (w1 := fun u => [(xa, .inr (9, [.ref tx, .ref rd, .ref tl, .ref hm, .ref hc, .ref hx0, .ref hn, .ref un, .ref kp, .ref sg])), (hc, .inr (1, [.ref hm, .ref ho])), (hm, .inr (3, [.ref hp, .ref hh])), (hp, .inr (4, [.ref ht, .int (nI n), .int fo, .int ss])), (ht, .inl (cI, 35, .inl tr)), (hh, .inl (cI, 128, .inl hom)), (ho, .inl (cI, 128, .inl u)), (hn, .inr (2, [.ref hq, .int (nI ow)]))]) on hx hb hr hlocks (rfl) hP hS dX9_tip_16 (by exact ⟨by simp only [A_tip, hw], trivial⟩)
    · exact absurd c_5 (by decide)
  · have hwe := q_ixS hw
    have hl : lv_has ls 5 [(0, .ref xa), (1, .int (nI g0)), (2, .int (bI t)), (3, .int v)] := by rw [← show w = nI g0 from hwe.1]; exact hl
    refine lv_aload_n hx hb dX9_tip_0 rfl (lv_at hl 0 rfl) ?_
    refine lv_iload_n hx hb dX9_tip_1 rfl (lv_at hl 1 rfl) ?_
    refine q_vi (As := [.int (nI g0)]) (rest := []) ⟨hx, hb, hml, hown, hts⟩ (c_X9_isSet l (D := D) (cI := cI) (cB := cB) (cZ := cZ) (xa := xa) (tx := tx) (rd := rd) (tl := tl) (hm := hm) (hc := hc) (hx0 := hx0) (hn := hn) (un := un) (kp := kp) (sg := sg) (hp := hp) (hh := hh) (ht := ht) (n := n) (fo := fo) (ss := ss) (w := nI g0) (⟨by omega, by omega⟩)) (cwV 1 hts gX9_tip_X9_isSet rfl rfl rfl (by decide +kernel) ⟨Nat.le_of_ble_eq_true rfl, Nat.le_of_ble_eq_true rfl⟩) hK hP [0, 2, 3] rfl 0 9 rfl rfl rfl rfl hl.1 rfl (Nat.le_of_ble_eq_true rfl) dX9_tip_2 ⟨Nat.zero_le _, Nat.zero_le _⟩ (fun r_2 hr_2 => ?_)
    have hr_2 : bI true = r_2 := (Eq.trans (show r_2 = bI ((q_ix (2 ^ n) (nI g0)).isSome) from hr_2) (by rw [q_ixI hwe.2 (by omega)]; rfl)).symm
    subst hr_2
    refine q_beq (tgt := 15) hx hb dX9_tip_5 (by decide) (fun c_5 => ?_) (fun c_5 => ?_)
    · exact absurd c_5 (by decide)
    · rcases q_eitC v with hv | hv | hv
      · have hl : lv_has ls 5 [(0, .ref xa), (1, .int (nI g0)), (2, .int (bI t)), (3, .int (nI 0))] := by rw [← show v = nI 0 from hv]; exact hl
        refine lv_iload_n hx hb dX9_tip_8 rfl (lv_at hl 3 rfl) ?_
        refine q_si (As := [.int (nI 0)]) (rest := []) ⟨hx, hb, hml, hown, hts⟩ (c_X9_isEither l (D := D) (cI := cI) (cB := cB) (cZ := cZ) (w := nI 0) ) (va_cwS 1 hts gX9_tip_X9_isEither rfl rfl rfl (by decide +kernel) ⟨Nat.le_of_ble_eq_true rfl, Nat.le_of_ble_eq_true rfl⟩) hK hP [] rfl rfl hl.1 rfl (Nat.le_of_ble_eq_true rfl) dX9_tip_9 ⟨Nat.zero_le _, Nat.zero_le _⟩ (fun r_9 hr_9 => ?_)
        have hr_9 : bI true = r_9 := (Eq.trans (show r_9 = bI (q_eit (nI 0)) from hr_9) (by decide)).symm
        subst hr_9
        refine q_bne (tgt := 17) hx hb dX9_tip_12 (by decide) (fun c_12 => ?_) (fun c_12 => ?_)
        · refine lv_aload_n hx hb dX9_tip_17 rfl (lv_at hl 0 rfl) ?_
          refine q_get (ci := 9) (CC := RX9) (T := TX9) (N := 10) (v := .ref hc) hx hb hts hin9 hown hK hP 0 rfl rfl 4 (by decide) (hts (.fieldLink RX9 42 "DearAsMany" "course" "LDearAsMany$Course;") (by decide +kernel)) rfl rfl dX9_tip_18 ?_
          refine lv_aload_n hx hb dX9_tip_21 rfl (lv_at hl 0 rfl) ?_
          refine q_get (ci := 9) (CC := RX9) (T := TX9) (N := 10) (v := .ref hn) hx hb hts hin9 hown hK hP 0 rfl rfl 6 (by decide) (hts (.fieldLink RX9 56 "DearAsMany" "now" "LDearAsMany$Holding;") (by decide +kernel)) rfl rfl dX9_tip_22 ?_
          refine q_get (ci := 2) (CC := RX2) (T := TX2) (N := 2) (v := .int (nI ow)) hx hb hts hin2 hown hK hP 7 rfl rfl 1 (by decide) (hts (.fieldLink RX9 135 "DearAsMany$Holding" "owners" "I") (by decide +kernel)) rfl rfl dX9_tip_25 ?_
          refine lv_iload_n hx hb dX9_tip_28 rfl (lv_at hl 1 rfl) ?_
          refine lv_iload_n hx hb dX9_tip_29 rfl (lv_at hl 2 rfl) ?_
          refine q_vmi (S := (Nat → Int32)) (w1 := fun u => [(hc, .inr (1, [.ref hm, .ref ho])), (hm, .inr (3, [.ref hp, .ref hh])), (hp, .inr (4, [.ref ht, .int (nI n), .int fo, .int ss])), (ht, .inl (cI, 35, .inl tr)), (hh, .inl (cI, 128, .inl hom)), (ho, .inl (cI, 128, .inl u))]) (w2 := fun u => [(xa, .inr (9, [.ref tx, .ref rd, .ref tl, .ref hm, .ref hc, .ref hx0, .ref hn, .ref un, .ref kp, .ref sg])), (hc, .inr (1, [.ref hm, .ref ho])), (hm, .inr (3, [.ref hp, .ref hh])), (hp, .inr (4, [.ref ht, .int (nI n), .int fo, .int ss])), (ht, .inl (cI, 35, .inl tr)), (hh, .inl (cI, 128, .inl hom)), (ho, .inl (cI, 128, .inl u)), (hn, .inr (2, [.ref hq, .int (nI ow)]))]) (As := [.int (nI ow), .int (nI g0), .int (bI t)]) (rest := []) ⟨hx, hb, hml, hown, hts⟩ (c_X1_leastPush l (D := D) (cI := cI) (cB := cB) (cZ := cZ) (hc := hc) (ho := ho) (hm := hm) (hp := hp) (hh := hh) (ht := ht) (n := n) (fo := fo) (ss := ss) (tr := tr) (hom := hom) (T := T) (ow := ow) (goal := g0) (t := t) (on := on) (by first | assumption | exact Nat.zero_le _ | omega) (by first | assumption | exact Nat.zero_le _ | omega) (by first | assumption | exact Nat.zero_le _ | omega) (how) (hwe.2)) (cwV 3 hts gX9_tip_X1_leastPush rfl rfl rfl (by decide +kernel) ⟨Nat.le_of_ble_eq_true rfl, Nat.le_of_ble_eq_true rfl⟩) hK hP hD hS hA [1, 2, 3, 4, 5, 6] rfl (by decide) 1 1 rfl rfl rfl rfl hl.1 rfl (Nat.le_of_ble_eq_true rfl) dX9_tip_30 ⟨Nat.zero_le _, Nat.zero_le _⟩ (fun _ => rfl) (fun _ => rfl) (fun _ => rfl) (fun r_30 w2 H locs hr_30 hP hD hS => ?_)
          have hP : va_P D vwCl [(xa, .inr (9, [.ref tx, .ref rd, .ref tl, .ref hm, .ref hc, .ref hx0, .ref hn, .ref un, .ref kp, .ref sg])), (hc, .inr (1, [.ref hm, .ref ho])), (hm, .inr (3, [.ref hp, .ref hh])), (hp, .inr (4, [.ref ht, .int (nI n), .int fo, .int ss])), (ht, .inl (cI, 35, .inl tr)), (hh, .inl (cI, 128, .inl hom)), (ho, .inl (cI, 128, .inl w2)), (hn, .inr (2, [.ref hq, .int (nI ow)]))] H := hP
          have hD : va_D A [(xa, .inr (9, [.ref tx, .ref rd, .ref tl, .ref hm, .ref hc, .ref hx0, .ref hn, .ref un, .ref kp, .ref sg])), (hc, .inr (1, [.ref hm, .ref ho])), (hm, .inr (3, [.ref hp, .ref hh])), (hp, .inr (4, [.ref ht, .int (nI n), .int fo, .int ss])), (ht, .inl (cI, 35, .inl tr)), (hh, .inl (cI, 128, .inl hom)), (ho, .inl (cI, 128, .inl w2)), (hn, .inr (2, [.ref hq, .int (nI ow)]))] := hD
          try dsimp only at hr_30
          obtain ⟨e_r_30, hr_30⟩ := hr_30
          have e_r_30 : q_oc (q_tpo T n ss t ow g0) = r_30 := (Eq.trans (show r_30 = q_tp T n ss t ow g0 from e_r_30) (q_tpE)).symm
          subst e_r_30
          refine lv_istore (lv' := [(4, .int (q_oc (q_tpo T n ss t ow g0))), (0, .ref xa), (1, .int (nI g0)), (2, .int (bI t)), (3, .int (nI 0))]) hx hb dX9_tip_33 hl (by decide) rfl (fun ls hl => ?_)
          rcases hp9 : q_tpo T n ss t ow g0 with _ | b1
          · have hl : lv_has ls 5 [(4, .int (-4 : Int32)), (0, .ref xa), (1, .int (nI g0)), (2, .int (bI t)), (3, .int (nI 0))] := by rw [← show q_oc (q_tpo T n ss t ow g0) = (-4 : Int32) from by rw [hp9]; rfl]; exact hl
            refine lv_iload hx hb dX9_tip_35 (lv_at hl 0 rfl) ?_
            refine lv_if_lt (x := (-4 : Int32)) (tgt := 45) hx hb dX9_tip_37 (by decide) (fun c_37 => ?_) (fun c_37 => ?_)
            · refine lv_iload hx hb dX9_tip_45 (lv_at hl 0 rfl) ?_
              refine lv_goto (tgt := 55) hx hb dX9_tip_47 (by decide) ?_
              exact q_mret (S := (Nat → Int32)) (v := (-4 : Int32)) (w1 := fun u => [(xa, .inr (9, [.ref tx, .ref rd, .ref tl, .ref hm, .ref hc, .ref hx0, .ref hn, .ref un, .ref kp, .ref sg])), (hc, .inr (1, [.ref hm, .ref ho])), (hm, .inr (3, [.ref hp, .ref hh])), (hp, .inr (4, [.ref ht, .int (nI n), .int fo, .int ss])), (ht, .inl (cI, 35, .inl tr)), (hh, .inl (cI, 128, .inl hom)), (ho, .inl (cI, 128, .inl u)), (hn, .inr (2, [.ref hq, .int (nI ow)]))]) w2 hx hb hr hlocks (rfl) hP hS dX9_tip_55 (by exact ⟨by simp only [A_tip, hw]; rw [if_pos hv, hp9]; rfl, trivial⟩)
            · exact absurd c_37 ((by decide))
          · have hl : lv_has ls 5 [(4, .int (nI b1)), (0, .ref xa), (1, .int (nI g0)), (2, .int (bI t)), (3, .int (nI 0))] := by rw [← show q_oc (q_tpo T n ss t ow g0) = nI b1 from by rw [hp9]; rfl]; exact hl
            refine lv_iload hx hb dX9_tip_35 (lv_at hl 0 rfl) ?_
            refine q_zlt (tgt := 45) hx hb dX9_tip_37 (by decide) (by have := q_tpo_lt hp9; omega) (fun c_37 => ?_) (fun c_37 => ?_)
            · exact absurd c_37 (Nat.not_lt_zero _)
            · refine lv_iload_n hx hb dX9_tip_40 rfl (lv_at hl 4 rfl) ?_
              refine lv_iconst (v := nI 1) hx hb dX9_tip_41 (by decide) ?_
              refine q_nne (tgt := 50) hx hb dX9_tip_42 (by decide) (by omega) (by omega) (fun c_42 => ?_) (fun c_42 => ?_)
              · refine lv_iload hx hb dX9_tip_50 (lv_at hl 0 rfl) ?_
                refine q_si (As := [.int (nI b1)]) (rest := []) ⟨hx, hb, hml, hown, hts⟩ (c_J6_bitCount_0f7a4 l (D := D) (cI := cI) (cB := cB) (cZ := cZ) (k := b1) (by have := q_tpo_lt hp9; omega)) (va_cwS 1 hts gX9_tip_J6_bitCount_0f7a4 rfl rfl rfl (by decide +kernel) ⟨Nat.le_of_ble_eq_true rfl, Nat.le_of_ble_eq_true rfl⟩) hK hP [] rfl rfl hl.1 rfl (Nat.le_of_ble_eq_true rfl) dX9_tip_52 ⟨Nat.zero_le _, Nat.zero_le _⟩ (fun r_52 hr_52 => ?_)
                have hr_52 : nI (pop8 b1) = r_52 := (show r_52 = nI (pop8 b1) from hr_52).symm
                subst hr_52
                exact q_mret (S := (Nat → Int32)) (v := nI (pop8 b1)) (w1 := fun u => [(xa, .inr (9, [.ref tx, .ref rd, .ref tl, .ref hm, .ref hc, .ref hx0, .ref hn, .ref un, .ref kp, .ref sg])), (hc, .inr (1, [.ref hm, .ref ho])), (hm, .inr (3, [.ref hp, .ref hh])), (hp, .inr (4, [.ref ht, .int (nI n), .int fo, .int ss])), (ht, .inl (cI, 35, .inl tr)), (hh, .inl (cI, 128, .inl hom)), (ho, .inl (cI, 128, .inl u)), (hn, .inr (2, [.ref hq, .int (nI ow)]))]) w2 hx hb hr hlocks (rfl) hP hS dX9_tip_55 (by exact ⟨by simp only [A_tip, hw]; rw [if_pos hv, hp9]; rfl, trivial⟩)
              · exact absurd c_42 (by decide)
        · exact absurd c_12 (by decide)
      · have hl : lv_has ls 5 [(0, .ref xa), (1, .int (nI g0)), (2, .int (bI t)), (3, .int (nI 1))] := by rw [← show v = nI 1 from hv]; exact hl
        refine lv_iload_n hx hb dX9_tip_8 rfl (lv_at hl 3 rfl) ?_
        refine q_si (As := [.int (nI 1)]) (rest := []) ⟨hx, hb, hml, hown, hts⟩ (c_X9_isEither l (D := D) (cI := cI) (cB := cB) (cZ := cZ) (w := nI 1) ) (va_cwS 1 hts gX9_tip_X9_isEither rfl rfl rfl (by decide +kernel) ⟨Nat.le_of_ble_eq_true rfl, Nat.le_of_ble_eq_true rfl⟩) hK hP [] rfl rfl hl.1 rfl (Nat.le_of_ble_eq_true rfl) dX9_tip_9 ⟨Nat.zero_le _, Nat.zero_le _⟩ (fun r_9 hr_9 => ?_)
        have hr_9 : bI true = r_9 := (Eq.trans (show r_9 = bI (q_eit (nI 1)) from hr_9) (by decide)).symm
        subst hr_9
        refine q_bne (tgt := 17) hx hb dX9_tip_12 (by decide) (fun c_12 => ?_) (fun c_12 => ?_)
        · refine lv_aload_n hx hb dX9_tip_17 rfl (lv_at hl 0 rfl) ?_
          refine q_get (ci := 9) (CC := RX9) (T := TX9) (N := 10) (v := .ref hc) hx hb hts hin9 hown hK hP 0 rfl rfl 4 (by decide) (hts (.fieldLink RX9 42 "DearAsMany" "course" "LDearAsMany$Course;") (by decide +kernel)) rfl rfl dX9_tip_18 ?_
          refine lv_aload_n hx hb dX9_tip_21 rfl (lv_at hl 0 rfl) ?_
          refine q_get (ci := 9) (CC := RX9) (T := TX9) (N := 10) (v := .ref hn) hx hb hts hin9 hown hK hP 0 rfl rfl 6 (by decide) (hts (.fieldLink RX9 56 "DearAsMany" "now" "LDearAsMany$Holding;") (by decide +kernel)) rfl rfl dX9_tip_22 ?_
          refine q_get (ci := 2) (CC := RX2) (T := TX2) (N := 2) (v := .int (nI ow)) hx hb hts hin2 hown hK hP 7 rfl rfl 1 (by decide) (hts (.fieldLink RX9 135 "DearAsMany$Holding" "owners" "I") (by decide +kernel)) rfl rfl dX9_tip_25 ?_
          refine lv_iload_n hx hb dX9_tip_28 rfl (lv_at hl 1 rfl) ?_
          refine lv_iload_n hx hb dX9_tip_29 rfl (lv_at hl 2 rfl) ?_
          refine q_vmi (S := (Nat → Int32)) (w1 := fun u => [(hc, .inr (1, [.ref hm, .ref ho])), (hm, .inr (3, [.ref hp, .ref hh])), (hp, .inr (4, [.ref ht, .int (nI n), .int fo, .int ss])), (ht, .inl (cI, 35, .inl tr)), (hh, .inl (cI, 128, .inl hom)), (ho, .inl (cI, 128, .inl u))]) (w2 := fun u => [(xa, .inr (9, [.ref tx, .ref rd, .ref tl, .ref hm, .ref hc, .ref hx0, .ref hn, .ref un, .ref kp, .ref sg])), (hc, .inr (1, [.ref hm, .ref ho])), (hm, .inr (3, [.ref hp, .ref hh])), (hp, .inr (4, [.ref ht, .int (nI n), .int fo, .int ss])), (ht, .inl (cI, 35, .inl tr)), (hh, .inl (cI, 128, .inl hom)), (ho, .inl (cI, 128, .inl u)), (hn, .inr (2, [.ref hq, .int (nI ow)]))]) (As := [.int (nI ow), .int (nI g0), .int (bI t)]) (rest := []) ⟨hx, hb, hml, hown, hts⟩ (c_X1_leastPush l (D := D) (cI := cI) (cB := cB) (cZ := cZ) (hc := hc) (ho := ho) (hm := hm) (hp := hp) (hh := hh) (ht := ht) (n := n) (fo := fo) (ss := ss) (tr := tr) (hom := hom) (T := T) (ow := ow) (goal := g0) (t := t) (on := on) (by first | assumption | exact Nat.zero_le _ | omega) (by first | assumption | exact Nat.zero_le _ | omega) (by first | assumption | exact Nat.zero_le _ | omega) (how) (hwe.2)) (cwV 3 hts gX9_tip_X1_leastPush rfl rfl rfl (by decide +kernel) ⟨Nat.le_of_ble_eq_true rfl, Nat.le_of_ble_eq_true rfl⟩) hK hP hD hS hA [1, 2, 3, 4, 5, 6] rfl (by decide) 1 1 rfl rfl rfl rfl hl.1 rfl (Nat.le_of_ble_eq_true rfl) dX9_tip_30 ⟨Nat.zero_le _, Nat.zero_le _⟩ (fun _ => rfl) (fun _ => rfl) (fun _ => rfl) (fun r_30 w2 H locs hr_30 hP hD hS => ?_)
          have hP : va_P D vwCl [(xa, .inr (9, [.ref tx, .ref rd, .ref tl, .ref hm, .ref hc, .ref hx0, .ref hn, .ref un, .ref kp, .ref sg])), (hc, .inr (1, [.ref hm, .ref ho])), (hm, .inr (3, [.ref hp, .ref hh])), (hp, .inr (4, [.ref ht, .int (nI n), .int fo, .int ss])), (ht, .inl (cI, 35, .inl tr)), (hh, .inl (cI, 128, .inl hom)), (ho, .inl (cI, 128, .inl w2)), (hn, .inr (2, [.ref hq, .int (nI ow)]))] H := hP
          have hD : va_D A [(xa, .inr (9, [.ref tx, .ref rd, .ref tl, .ref hm, .ref hc, .ref hx0, .ref hn, .ref un, .ref kp, .ref sg])), (hc, .inr (1, [.ref hm, .ref ho])), (hm, .inr (3, [.ref hp, .ref hh])), (hp, .inr (4, [.ref ht, .int (nI n), .int fo, .int ss])), (ht, .inl (cI, 35, .inl tr)), (hh, .inl (cI, 128, .inl hom)), (ho, .inl (cI, 128, .inl w2)), (hn, .inr (2, [.ref hq, .int (nI ow)]))] := hD
          try dsimp only at hr_30
          obtain ⟨e_r_30, hr_30⟩ := hr_30
          have e_r_30 : q_oc (q_tpo T n ss t ow g0) = r_30 := (Eq.trans (show r_30 = q_tp T n ss t ow g0 from e_r_30) (q_tpE)).symm
          subst e_r_30
          refine lv_istore (lv' := [(4, .int (q_oc (q_tpo T n ss t ow g0))), (0, .ref xa), (1, .int (nI g0)), (2, .int (bI t)), (3, .int (nI 1))]) hx hb dX9_tip_33 hl (by decide) rfl (fun ls hl => ?_)
          rcases hp9 : q_tpo T n ss t ow g0 with _ | b1
          · have hl : lv_has ls 5 [(4, .int (-4 : Int32)), (0, .ref xa), (1, .int (nI g0)), (2, .int (bI t)), (3, .int (nI 1))] := by rw [← show q_oc (q_tpo T n ss t ow g0) = (-4 : Int32) from by rw [hp9]; rfl]; exact hl
            refine lv_iload hx hb dX9_tip_35 (lv_at hl 0 rfl) ?_
            refine lv_if_lt (x := (-4 : Int32)) (tgt := 45) hx hb dX9_tip_37 (by decide) (fun c_37 => ?_) (fun c_37 => ?_)
            · refine lv_iload hx hb dX9_tip_45 (lv_at hl 0 rfl) ?_
              refine lv_goto (tgt := 55) hx hb dX9_tip_47 (by decide) ?_
              exact q_mret (S := (Nat → Int32)) (v := (-4 : Int32)) (w1 := fun u => [(xa, .inr (9, [.ref tx, .ref rd, .ref tl, .ref hm, .ref hc, .ref hx0, .ref hn, .ref un, .ref kp, .ref sg])), (hc, .inr (1, [.ref hm, .ref ho])), (hm, .inr (3, [.ref hp, .ref hh])), (hp, .inr (4, [.ref ht, .int (nI n), .int fo, .int ss])), (ht, .inl (cI, 35, .inl tr)), (hh, .inl (cI, 128, .inl hom)), (ho, .inl (cI, 128, .inl u)), (hn, .inr (2, [.ref hq, .int (nI ow)]))]) w2 hx hb hr hlocks (rfl) hP hS dX9_tip_55 (by exact ⟨by simp only [A_tip, hw]; rw [if_neg (by rw [hv]; decide), if_pos hv, hp9]; rfl, trivial⟩)
            · exact absurd c_37 ((by decide))
          · have hl : lv_has ls 5 [(4, .int (nI b1)), (0, .ref xa), (1, .int (nI g0)), (2, .int (bI t)), (3, .int (nI 1))] := by rw [← show q_oc (q_tpo T n ss t ow g0) = nI b1 from by rw [hp9]; rfl]; exact hl
            refine lv_iload hx hb dX9_tip_35 (lv_at hl 0 rfl) ?_
            refine q_zlt (tgt := 45) hx hb dX9_tip_37 (by decide) (by have := q_tpo_lt hp9; omega) (fun c_37 => ?_) (fun c_37 => ?_)
            · exact absurd c_37 (Nat.not_lt_zero _)
            · refine lv_iload_n hx hb dX9_tip_40 rfl (lv_at hl 4 rfl) ?_
              refine lv_iconst (v := nI 1) hx hb dX9_tip_41 (by decide) ?_
              refine q_nne (tgt := 50) hx hb dX9_tip_42 (by decide) (by omega) (by omega) (fun c_42 => ?_) (fun c_42 => ?_)
              · exact absurd c_42 (by decide)
              · refine lv_iload hx hb dX9_tip_45 (lv_at hl 0 rfl) ?_
                refine lv_goto (tgt := 55) hx hb dX9_tip_47 (by decide) ?_
                exact q_mret (S := (Nat → Int32)) (v := nI b1) (w1 := fun u => [(xa, .inr (9, [.ref tx, .ref rd, .ref tl, .ref hm, .ref hc, .ref hx0, .ref hn, .ref un, .ref kp, .ref sg])), (hc, .inr (1, [.ref hm, .ref ho])), (hm, .inr (3, [.ref hp, .ref hh])), (hp, .inr (4, [.ref ht, .int (nI n), .int fo, .int ss])), (ht, .inl (cI, 35, .inl tr)), (hh, .inl (cI, 128, .inl hom)), (ho, .inl (cI, 128, .inl u)), (hn, .inr (2, [.ref hq, .int (nI ow)]))]) w2 hx hb hr hlocks (rfl) hP hS dX9_tip_55 (by exact ⟨by simp only [A_tip, hw]; rw [if_neg (by rw [hv]; decide), if_pos hv, hp9]; rfl, trivial⟩)
        · exact absurd c_12 (by decide)
      · refine lv_iload_n hx hb dX9_tip_8 rfl (lv_at hl 3 rfl) ?_
        refine q_si (As := [.int v]) (rest := []) ⟨hx, hb, hml, hown, hts⟩ (c_X9_isEither l (D := D) (cI := cI) (cB := cB) (cZ := cZ) (w := v) ) (va_cwS 1 hts gX9_tip_X9_isEither rfl rfl rfl (by decide +kernel) ⟨Nat.le_of_ble_eq_true rfl, Nat.le_of_ble_eq_true rfl⟩) hK hP [] rfl rfl hl.1 rfl (Nat.le_of_ble_eq_true rfl) dX9_tip_9 ⟨Nat.zero_le _, Nat.zero_le _⟩ (fun r_9 hr_9 => ?_)
        have hr_9 : bI false = r_9 := (Eq.trans (show r_9 = bI (q_eit v) from hr_9) (by rw [hv])).symm
        subst hr_9
        refine q_bne (tgt := 17) hx hb dX9_tip_12 (by decide) (fun c_12 => ?_) (fun c_12 => ?_)
        · exact absurd c_12 (by decide)
        · refine lv_iconst (v := (-1 : Int32)) hx hb dX9_tip_15 (by decide) ?_
          exact q_mret (S := (Nat → Int32)) (v := (-1 : Int32)) (w1 := fun u => [(xa, .inr (9, [.ref tx, .ref rd, .ref tl, .ref hm, .ref hc, .ref hx0, .ref hn, .ref un, .ref kp, .ref sg])), (hc, .inr (1, [.ref hm, .ref ho])), (hm, .inr (3, [.ref hp, .ref hh])), (hp, .inr (4, [.ref ht, .int (nI n), .int fo, .int ss])), (ht, .inl (cI, 35, .inl tr)), (hh, .inl (cI, 128, .inl hom)), (ho, .inl (cI, 128, .inl u)), (hn, .inr (2, [.ref hq, .int (nI ow)]))]) on hx hb hr hlocks (rfl) hP hS dX9_tip_16 (by exact ⟨by simp only [A_tip, hw]; rw [if_neg (q_eitN hv).1, if_neg (q_eitN hv).2], trivial⟩)

set_option maxHeartbeats 4000000 in
set_option maxRecDepth 100000 in
theorem c_X9_place (l : Launch) {D : va_G} {cI cB cZ : ClassId} {xa : Nat} {tx : Nat} {rd : Nat} {tl : Nat} {hm : Nat} {hc : Nat} {hx0 : Nat} {hn : Nat} {un : Nat} {kp : Nat} {sg : Nat} {hp : Nat} {hh : Nat} {ht : Nat} {n : Nat} {fo : Int32} {ss : Int32} {tr : Nat → Int32} {hom : Nat → Int32} {T : Nat → Nat → Nat} {hq : Nat} {ow : Nat} {w : Int32} {v : Int32} (hT : q_Tr T n tr) (hB : q_Bd T n) (hH : q_Hm T n hom) (how : ow < 2 ^ n) : Met l yX9_place wsX9_place ({ frames := 5, cells := 0, slots := 0, locals := 125 } : Room) (va_Pc [.ref xa, .int w, .int v] (q_B D (q_tys cI cB cZ) [(xa, .inr (9, [.ref tx, .ref rd, .ref tl, .ref hm, .ref hc, .ref hx0, .ref hn, .ref un, .ref kp, .ref sg])), (hx0, .inr (0, [.ref hm])), (hm, .inr (3, [.ref hp, .ref hh])), (hp, .inr (4, [.ref ht, .int (nI n), .int fo, .int ss])), (ht, .inl (cI, 35, .inl tr)), (hh, .inl (cI, 128, .inl hom)), (hn, .inr (2, [.ref hq, .int (nI ow)]))])) (vp_Si (fun r => r = A_place T n ss ow w v)) 0 0 (fun _ => False) := by
  refine Met.ofW (cc := cX9_place) (maxL := 4) (ret := (some .int)) (by decide) rfl ?_
  intro p e s m args below meth c s₁ B hml hv
  obtain ⟨rfl, hP, hK⟩ := hv
  have hx := B.exec
  have hb := B.bytes
  have hr := B.returns
  have hts := atoms_spec (ws := wsX9_place) B.pre
  have hown : s.vm.findClass RX9 = some m.cls := findClass_of_methodNamed B.named
  have hlocks := B.notSynchronized
  have hin2 : ∀ w ∈ u_ws RX2 TX2 2, w ∈ wsX9_place := by decide +kernel
  have hin9 : ∀ w ∈ u_ws RX9 TX9 10, w ∈ wsX9_place := by decide +kernel
  have hP : va_P D vwCl [(xa, .inr (9, [.ref tx, .ref rd, .ref tl, .ref hm, .ref hc, .ref hx0, .ref hn, .ref un, .ref kp, .ref sg])), (hx0, .inr (0, [.ref hm])), (hm, .inr (3, [.ref hp, .ref hh])), (hp, .inr (4, [.ref ht, .int (nI n), .int fo, .int ss])), (ht, .inl (cI, 35, .inl tr)), (hh, .inl (cI, 128, .inl hom)), (hn, .inr (2, [.ref hq, .int (nI ow)]))] s.heap := hP
  have hl := lv_entry ([.ref xa, .int w, .int v]) (n := 4) (Nat.le_of_ble_eq_true rfl)
  rw [lg_entry_eq]
  generalize (lg_sl ([.ref xa, .int w, .int v]) ++ List.replicate (4 - (lg_sl ([.ref xa, .int w, .int v])).length) Slot.unset).toArray = ls at hl ⊢
  have hl : lv_has ls 4 [(0, .ref xa), (1, .int w), (2, .int v)] := hl
  have hn7 := hB.1
  have hp2 : 2 ^ n ≤ 128 := q_p2 hB.1
  have ho128 := q_S128 hB how
  rcases hw : q_ix (n) w with _ | i
  · refine lv_aload_n hx hb dX9_place_0 rfl (lv_at hl 0 rfl) ?_
    refine lv_iload_n hx hb dX9_place_1 rfl (lv_at hl 1 rfl) ?_
    refine q_vi (As := [.int w]) (rest := []) ⟨hx, hb, hml, hown, hts⟩ (c_X9_isPerson l (D := D) (cI := cI) (cB := cB) (cZ := cZ) (xa := xa) (tx := tx) (rd := rd) (tl := tl) (hm := hm) (hc := hc) (hx0 := hx0) (hn := hn) (un := un) (kp := kp) (sg := sg) (hp := hp) (hh := hh) (ht := ht) (n := n) (fo := fo) (ss := ss) (w := w) (by omega)) (cwV 1 hts gX9_place_X9_isPerson rfl rfl rfl (by decide +kernel) ⟨Nat.le_of_ble_eq_true rfl, Nat.le_of_ble_eq_true rfl⟩) hK hP [0, 2, 3] rfl 0 9 rfl rfl rfl rfl hl.1 rfl (Nat.le_of_ble_eq_true rfl) dX9_place_2 ⟨Nat.zero_le _, Nat.zero_le _⟩ (fun r_2 hr_2 => ?_)
    have hr_2 : bI false = r_2 := (Eq.trans (show r_2 = bI ((q_ix n w).isSome) from hr_2) (by rw [hw]; rfl)).symm
    subst hr_2
    refine q_beq (tgt := 15) hx hb dX9_place_5 (by decide) (fun c_5 => ?_) (fun c_5 => ?_)
    · refine lv_iconst (v := (-1 : Int32)) hx hb dX9_place_15 (by decide) ?_
      exact q_zret (v := (-1 : Int32)) hx hb hr hlocks (rfl) (show (-1 : Int32) = A_place T n ss ow w v from by simp only [A_place, hw]) dX9_place_16
    · exact absurd c_5 (by decide)
  · have hwe := q_ixS hw
    have hl : lv_has ls 4 [(0, .ref xa), (1, .int (nI i)), (2, .int v)] := by rw [← show w = nI i from hwe.1]; exact hl
    refine lv_aload_n hx hb dX9_place_0 rfl (lv_at hl 0 rfl) ?_
    refine lv_iload_n hx hb dX9_place_1 rfl (lv_at hl 1 rfl) ?_
    refine q_vi (As := [.int (nI i)]) (rest := []) ⟨hx, hb, hml, hown, hts⟩ (c_X9_isPerson l (D := D) (cI := cI) (cB := cB) (cZ := cZ) (xa := xa) (tx := tx) (rd := rd) (tl := tl) (hm := hm) (hc := hc) (hx0 := hx0) (hn := hn) (un := un) (kp := kp) (sg := sg) (hp := hp) (hh := hh) (ht := ht) (n := n) (fo := fo) (ss := ss) (w := nI i) (by omega)) (cwV 1 hts gX9_place_X9_isPerson rfl rfl rfl (by decide +kernel) ⟨Nat.le_of_ble_eq_true rfl, Nat.le_of_ble_eq_true rfl⟩) hK hP [0, 2, 3] rfl 0 9 rfl rfl rfl rfl hl.1 rfl (Nat.le_of_ble_eq_true rfl) dX9_place_2 ⟨Nat.zero_le _, Nat.zero_le _⟩ (fun r_2 hr_2 => ?_)
    have hr_2 : bI true = r_2 := (Eq.trans (show r_2 = bI ((q_ix n (nI i)).isSome) from hr_2) (by rw [q_ixI hwe.2 (by omega)]; rfl)).symm
    subst hr_2
    refine q_beq (tgt := 15) hx hb dX9_place_5 (by decide) (fun c_5 => ?_) (fun c_5 => ?_)
    · exact absurd c_5 (by decide)
    · rcases q_eitC v with hv | hv | hv
      · have hl : lv_has ls 4 [(0, .ref xa), (1, .int (nI i)), (2, .int (nI 0))] := by rw [← show v = nI 0 from hv]; exact hl
        refine lv_iload_n hx hb dX9_place_8 rfl (lv_at hl 2 rfl) ?_
        refine q_si (As := [.int (nI 0)]) (rest := []) ⟨hx, hb, hml, hown, hts⟩ (c_X9_isEither l (D := D) (cI := cI) (cB := cB) (cZ := cZ) (w := nI 0) ) (va_cwS 1 hts gX9_place_X9_isEither rfl rfl rfl (by decide +kernel) ⟨Nat.le_of_ble_eq_true rfl, Nat.le_of_ble_eq_true rfl⟩) hK hP [] rfl rfl hl.1 rfl (Nat.le_of_ble_eq_true rfl) dX9_place_9 ⟨Nat.zero_le _, Nat.zero_le _⟩ (fun r_9 hr_9 => ?_)
        have hr_9 : bI true = r_9 := (Eq.trans (show r_9 = bI (q_eit (nI 0)) from hr_9) (by decide)).symm
        subst hr_9
        refine q_bne (tgt := 17) hx hb dX9_place_12 (by decide) (fun c_12 => ?_) (fun c_12 => ?_)
        · refine lv_aload_n hx hb dX9_place_17 rfl (lv_at hl 0 rfl) ?_
          refine q_get (ci := 9) (CC := RX9) (T := TX9) (N := 10) (v := .ref hn) hx hb hts hin9 hown hK hP 0 rfl rfl 6 (by decide) (hts (.fieldLink RX9 56 "DearAsMany" "now" "LDearAsMany$Holding;") (by decide +kernel)) rfl rfl dX9_place_18 ?_
          refine lv_iload_n hx hb dX9_place_21 rfl (lv_at hl 1 rfl) ?_
          refine q_vi (As := [.int (nI i)]) (rest := []) ⟨hx, hb, hml, hown, hts⟩ (c_X2_owns l (D := D) (cI := cI) (cB := cB) (cZ := cZ) (hn := hn) (hq := hq) (i := i) (ow := ow) (by omega) (by omega)) (cwV 1 hts gX9_place_X2_owns rfl rfl rfl (by decide +kernel) ⟨Nat.le_of_ble_eq_true rfl, Nat.le_of_ble_eq_true rfl⟩) hK hP [6] rfl 6 2 rfl rfl rfl rfl hl.1 rfl (Nat.le_of_ble_eq_true rfl) dX9_place_22 ⟨Nat.zero_le _, Nat.zero_le _⟩ (fun r_22 hr_22 => ?_)
          have hr_22 : bI (ow.testBit i) = r_22 := (show r_22 = bI (ow.testBit i) from hr_22).symm
          subst hr_22
          refine q_beq (tgt := 31) hx hb dX9_place_25 (by decide) (fun c_25 => ?_) (fun c_25 => ?_)
          · refine lv_aload_n hx hb dX9_place_31 rfl (lv_at hl 0 rfl) ?_
            refine q_get (ci := 9) (CC := RX9) (T := TX9) (N := 10) (v := .ref hx0) hx hb hts hin9 hown hK hP 0 rfl rfl 5 (by decide) (hts (.fieldLink RX9 49 "DearAsMany" "counsel" "LDearAsMany$Counsel;") (by decide +kernel)) rfl rfl dX9_place_32 ?_
            refine lv_iload_n hx hb dX9_place_35 rfl (lv_at hl 1 rfl) ?_
            refine lv_aload_n hx hb dX9_place_36 rfl (lv_at hl 0 rfl) ?_
            refine q_get (ci := 9) (CC := RX9) (T := TX9) (N := 10) (v := .ref hn) hx hb hts hin9 hown hK hP 0 rfl rfl 6 (by decide) (hts (.fieldLink RX9 56 "DearAsMany" "now" "LDearAsMany$Holding;") (by decide +kernel)) rfl rfl dX9_place_37 ?_
            refine q_get (ci := 2) (CC := RX2) (T := TX2) (N := 2) (v := .int (nI ow)) hx hb hts hin2 hown hK hP 6 rfl rfl 1 (by decide) (hts (.fieldLink RX9 135 "DearAsMany$Holding" "owners" "I") (by decide +kernel)) rfl rfl dX9_place_40 ?_
            refine q_vi (As := [.int (nI i), .int (nI ow)]) (rest := []) ⟨hx, hb, hml, hown, hts⟩ (c_X0_bestAhead l (D := D) (cI := cI) (cB := cB) (cZ := cZ) (hx0 := hx0) (hm := hm) (hp := hp) (hh := hh) (ht := ht) (n := n) (fo := fo) (ss := ss) (tr := tr) (hom := hom) (T := T) (i := i) (ow := ow) (by first | assumption | exact Nat.zero_le _ | omega) (by first | assumption | exact Nat.zero_le _ | omega) (by first | assumption | exact Nat.zero_le _ | omega) (hwe.2) (by first | assumption | exact Nat.zero_le _ | omega) (c_25)) (cwV 2 hts gX9_place_X0_bestAhead rfl rfl rfl (by decide +kernel) ⟨Nat.le_of_ble_eq_true rfl, Nat.le_of_ble_eq_true rfl⟩) hK hP [1, 2, 3, 4, 5] rfl 1 0 rfl rfl rfl rfl hl.1 rfl (Nat.le_of_ble_eq_true rfl) dX9_place_43 ⟨Nat.zero_le _, Nat.zero_le _⟩ (fun r_43 hr_43 => ?_)
            have hr_43 : nI ((q_ba (q_gain T n ss i ow) (n - pop8 ow - 1)).1) = r_43 := (show r_43 = nI ((q_ba (q_gain T n ss i ow) (n - pop8 ow - 1)).1) from hr_43).symm
            subst hr_43
            refine lv_istore_n (lv' := [(3, .int (nI ((q_ba (q_gain T n ss i ow) (n - pop8 ow - 1)).1))), (0, .ref xa), (1, .int (nI i)), (2, .int (nI 0))]) hx hb dX9_place_46 rfl hl (by decide) rfl (fun ls hl => ?_)
            refine lv_iload_n hx hb dX9_place_47 rfl (lv_at hl 3 rfl) ?_
            refine q_zne (tgt := 55) hx hb dX9_place_48 (by decide) (by omega) (fun c_48 => ?_) (fun c_48 => ?_)
            · exact absurd c_48 (by decide)
            · refine lv_iload_n hx hb dX9_place_51 rfl (lv_at hl 0 rfl) ?_
              refine lv_goto (tgt := 75) hx hb dX9_place_52 (by decide) ?_
              exact q_zret (v := nI ((q_ba (q_gain T n ss i ow) (n - pop8 ow - 1)).1)) hx hb hr hlocks (rfl) (show nI ((q_ba (q_gain T n ss i ow) (n - pop8 ow - 1)).1) = A_place T n ss ow w v from by simp only [A_place, hw, c_25]; rw [if_pos hv]; rfl) dX9_place_75
          · refine lv_bipush (v := (-2 : Int32)) hx hb dX9_place_28 (by decide) ?_
            exact q_zret (v := (-2 : Int32)) hx hb hr hlocks (rfl) (show (-2 : Int32) = A_place T n ss ow w v from by simp only [A_place, hw, c_25]; rw [if_pos hv]; rfl) dX9_place_30
        · exact absurd c_12 (by decide)
      · have hl : lv_has ls 4 [(0, .ref xa), (1, .int (nI i)), (2, .int (nI 1))] := by rw [← show v = nI 1 from hv]; exact hl
        refine lv_iload_n hx hb dX9_place_8 rfl (lv_at hl 2 rfl) ?_
        refine q_si (As := [.int (nI 1)]) (rest := []) ⟨hx, hb, hml, hown, hts⟩ (c_X9_isEither l (D := D) (cI := cI) (cB := cB) (cZ := cZ) (w := nI 1) ) (va_cwS 1 hts gX9_place_X9_isEither rfl rfl rfl (by decide +kernel) ⟨Nat.le_of_ble_eq_true rfl, Nat.le_of_ble_eq_true rfl⟩) hK hP [] rfl rfl hl.1 rfl (Nat.le_of_ble_eq_true rfl) dX9_place_9 ⟨Nat.zero_le _, Nat.zero_le _⟩ (fun r_9 hr_9 => ?_)
        have hr_9 : bI true = r_9 := (Eq.trans (show r_9 = bI (q_eit (nI 1)) from hr_9) (by decide)).symm
        subst hr_9
        refine q_bne (tgt := 17) hx hb dX9_place_12 (by decide) (fun c_12 => ?_) (fun c_12 => ?_)
        · refine lv_aload_n hx hb dX9_place_17 rfl (lv_at hl 0 rfl) ?_
          refine q_get (ci := 9) (CC := RX9) (T := TX9) (N := 10) (v := .ref hn) hx hb hts hin9 hown hK hP 0 rfl rfl 6 (by decide) (hts (.fieldLink RX9 56 "DearAsMany" "now" "LDearAsMany$Holding;") (by decide +kernel)) rfl rfl dX9_place_18 ?_
          refine lv_iload_n hx hb dX9_place_21 rfl (lv_at hl 1 rfl) ?_
          refine q_vi (As := [.int (nI i)]) (rest := []) ⟨hx, hb, hml, hown, hts⟩ (c_X2_owns l (D := D) (cI := cI) (cB := cB) (cZ := cZ) (hn := hn) (hq := hq) (i := i) (ow := ow) (by omega) (by omega)) (cwV 1 hts gX9_place_X2_owns rfl rfl rfl (by decide +kernel) ⟨Nat.le_of_ble_eq_true rfl, Nat.le_of_ble_eq_true rfl⟩) hK hP [6] rfl 6 2 rfl rfl rfl rfl hl.1 rfl (Nat.le_of_ble_eq_true rfl) dX9_place_22 ⟨Nat.zero_le _, Nat.zero_le _⟩ (fun r_22 hr_22 => ?_)
          have hr_22 : bI (ow.testBit i) = r_22 := (show r_22 = bI (ow.testBit i) from hr_22).symm
          subst hr_22
          refine q_beq (tgt := 31) hx hb dX9_place_25 (by decide) (fun c_25 => ?_) (fun c_25 => ?_)
          · refine lv_aload_n hx hb dX9_place_31 rfl (lv_at hl 0 rfl) ?_
            refine q_get (ci := 9) (CC := RX9) (T := TX9) (N := 10) (v := .ref hx0) hx hb hts hin9 hown hK hP 0 rfl rfl 5 (by decide) (hts (.fieldLink RX9 49 "DearAsMany" "counsel" "LDearAsMany$Counsel;") (by decide +kernel)) rfl rfl dX9_place_32 ?_
            refine lv_iload_n hx hb dX9_place_35 rfl (lv_at hl 1 rfl) ?_
            refine lv_aload_n hx hb dX9_place_36 rfl (lv_at hl 0 rfl) ?_
            refine q_get (ci := 9) (CC := RX9) (T := TX9) (N := 10) (v := .ref hn) hx hb hts hin9 hown hK hP 0 rfl rfl 6 (by decide) (hts (.fieldLink RX9 56 "DearAsMany" "now" "LDearAsMany$Holding;") (by decide +kernel)) rfl rfl dX9_place_37 ?_
            refine q_get (ci := 2) (CC := RX2) (T := TX2) (N := 2) (v := .int (nI ow)) hx hb hts hin2 hown hK hP 6 rfl rfl 1 (by decide) (hts (.fieldLink RX9 135 "DearAsMany$Holding" "owners" "I") (by decide +kernel)) rfl rfl dX9_place_40 ?_
            refine q_vi (As := [.int (nI i), .int (nI ow)]) (rest := []) ⟨hx, hb, hml, hown, hts⟩ (c_X0_bestAhead l (D := D) (cI := cI) (cB := cB) (cZ := cZ) (hx0 := hx0) (hm := hm) (hp := hp) (hh := hh) (ht := ht) (n := n) (fo := fo) (ss := ss) (tr := tr) (hom := hom) (T := T) (i := i) (ow := ow) (by first | assumption | exact Nat.zero_le _ | omega) (by first | assumption | exact Nat.zero_le _ | omega) (by first | assumption | exact Nat.zero_le _ | omega) (hwe.2) (by first | assumption | exact Nat.zero_le _ | omega) (c_25)) (cwV 2 hts gX9_place_X0_bestAhead rfl rfl rfl (by decide +kernel) ⟨Nat.le_of_ble_eq_true rfl, Nat.le_of_ble_eq_true rfl⟩) hK hP [1, 2, 3, 4, 5] rfl 1 0 rfl rfl rfl rfl hl.1 rfl (Nat.le_of_ble_eq_true rfl) dX9_place_43 ⟨Nat.zero_le _, Nat.zero_le _⟩ (fun r_43 hr_43 => ?_)
            have hr_43 : nI ((q_ba (q_gain T n ss i ow) (n - pop8 ow - 1)).1) = r_43 := (show r_43 = nI ((q_ba (q_gain T n ss i ow) (n - pop8 ow - 1)).1) from hr_43).symm
            subst hr_43
            refine lv_istore_n (lv' := [(3, .int (nI ((q_ba (q_gain T n ss i ow) (n - pop8 ow - 1)).1))), (0, .ref xa), (1, .int (nI i)), (2, .int (nI 1))]) hx hb dX9_place_46 rfl hl (by decide) rfl (fun ls hl => ?_)
            refine lv_iload_n hx hb dX9_place_47 rfl (lv_at hl 3 rfl) ?_
            refine q_zne (tgt := 55) hx hb dX9_place_48 (by decide) (by omega) (fun c_48 => ?_) (fun c_48 => ?_)
            · refine lv_aload_n hx hb dX9_place_55 rfl (lv_at hl 1 rfl) ?_
              refine q_get (ci := 9) (CC := RX9) (T := TX9) (N := 10) (v := .ref hx0) hx hb hts hin9 hown hK hP 0 rfl rfl 5 (by decide) (hts (.fieldLink RX9 49 "DearAsMany" "counsel" "LDearAsMany$Counsel;") (by decide +kernel)) rfl rfl dX9_place_56 ?_
              refine lv_iload_n hx hb dX9_place_59 rfl (lv_at hl 2 rfl) ?_
              refine lv_iload_n hx hb dX9_place_60 rfl (lv_at hl 0 rfl) ?_
              refine lv_aload_n hx hb dX9_place_61 rfl (lv_at hl 1 rfl) ?_
              refine q_get (ci := 9) (CC := RX9) (T := TX9) (N := 10) (v := .ref hn) hx hb hts hin9 hown hK hP 0 rfl rfl 6 (by decide) (hts (.fieldLink RX9 56 "DearAsMany" "now" "LDearAsMany$Holding;") (by decide +kernel)) rfl rfl dX9_place_62 ?_
              refine q_get (ci := 2) (CC := RX2) (T := TX2) (N := 2) (v := .int (nI ow)) hx hb hts hin2 hown hK hP 6 rfl rfl 1 (by decide) (hts (.fieldLink RX9 135 "DearAsMany$Holding" "owners" "I") (by decide +kernel)) rfl rfl dX9_place_65 ?_
              refine q_vi (As := [.int (nI i), .int (nI ((q_ba (q_gain T n ss i ow) (n - pop8 ow - 1)).1)), .int (nI ow)]) (rest := []) ⟨hx, hb, hml, hown, hts⟩ (c_X0_gainBehind l (D := D) (cI := cI) (cB := cB) (cZ := cZ) (hx0 := hx0) (hm := hm) (hp := hp) (hh := hh) (ht := ht) (n := n) (fo := fo) (ss := ss) (tr := tr) (hom := hom) (T := T) (i := i) (k := (q_ba (q_gain T n ss i ow) (n - pop8 ow - 1)).1) (ow := ow) (by first | assumption | exact Nat.zero_le _ | omega) (by first | assumption | exact Nat.zero_le _ | omega) (by first | assumption | exact Nat.zero_le _ | omega) (hwe.2) (by first | assumption | exact Nat.zero_le _ | omega) (by have := q_ba_le (q_gain T n ss i ow) (n - pop8 ow - 1); omega)) (cwV 3 hts gX9_place_X0_gainBehind rfl rfl rfl (by decide +kernel) ⟨Nat.le_of_ble_eq_true rfl, Nat.le_of_ble_eq_true rfl⟩) hK hP [1, 2, 3, 4, 5] rfl 1 0 rfl rfl rfl rfl hl.1 rfl (Nat.le_of_ble_eq_true rfl) dX9_place_68 ⟨Nat.zero_le _, Nat.zero_le _⟩ (fun r_68 hr_68 => ?_)
              have hr_68 : (q_ba (q_gain T n ss i ow) (n - pop8 ow - 1)).2 = r_68 := (Eq.trans (show r_68 = q_gain T n ss i ow ((q_ba (q_gain T n ss i ow) (n - pop8 ow - 1)).1) from hr_68) (q_baG _ _)).symm
              subst hr_68
              refine lv_sipush (v := nI 1000) hx hb dX9_place_71 (by decide) ?_
              refine q_iadd (v := ((q_ba (q_gain T n ss i ow) (n - pop8 ow - 1)).2) + (nI 1000)) hx hb dX9_place_74 (rfl) ?_
              exact q_zret (v := ((q_ba (q_gain T n ss i ow) (n - pop8 ow - 1)).2) + (nI 1000)) hx hb hr hlocks (rfl) (show ((q_ba (q_gain T n ss i ow) (n - pop8 ow - 1)).2) + (nI 1000) = A_place T n ss ow w v from by simp only [A_place, hw, c_25]; rw [if_neg (by rw [hv]; decide), if_pos hv]; rfl) dX9_place_75
            · exact absurd c_48 (by decide)
          · refine lv_bipush (v := (-2 : Int32)) hx hb dX9_place_28 (by decide) ?_
            exact q_zret (v := (-2 : Int32)) hx hb hr hlocks (rfl) (show (-2 : Int32) = A_place T n ss ow w v from by simp only [A_place, hw, c_25]; rw [if_neg (by rw [hv]; decide), if_pos hv]; rfl) dX9_place_30
        · exact absurd c_12 (by decide)
      · refine lv_iload_n hx hb dX9_place_8 rfl (lv_at hl 2 rfl) ?_
        refine q_si (As := [.int v]) (rest := []) ⟨hx, hb, hml, hown, hts⟩ (c_X9_isEither l (D := D) (cI := cI) (cB := cB) (cZ := cZ) (w := v) ) (va_cwS 1 hts gX9_place_X9_isEither rfl rfl rfl (by decide +kernel) ⟨Nat.le_of_ble_eq_true rfl, Nat.le_of_ble_eq_true rfl⟩) hK hP [] rfl rfl hl.1 rfl (Nat.le_of_ble_eq_true rfl) dX9_place_9 ⟨Nat.zero_le _, Nat.zero_le _⟩ (fun r_9 hr_9 => ?_)
        have hr_9 : bI false = r_9 := (Eq.trans (show r_9 = bI (q_eit v) from hr_9) (by rw [hv])).symm
        subst hr_9
        refine q_bne (tgt := 17) hx hb dX9_place_12 (by decide) (fun c_12 => ?_) (fun c_12 => ?_)
        · exact absurd c_12 (by decide)
        · refine lv_iconst (v := (-1 : Int32)) hx hb dX9_place_15 (by decide) ?_
          exact q_zret (v := (-1 : Int32)) hx hb hr hlocks (rfl) (show (-1 : Int32) = A_place T n ss ow w v from by simp only [A_place, hw]; rw [if_neg (q_eitN hv).1, if_neg (q_eitN hv).2]) dX9_place_16

set_option maxHeartbeats 4000000 in
set_option maxRecDepth 100000 in
theorem c_X9_burn (l : Launch) {D : va_G} {cI cB cZ : ClassId} {xa : Nat} {tx : Nat} {rd : Nat} {tl : Nat} {hm : Nat} {hc : Nat} {hx0 : Nat} {hn : Nat} {un : Nat} {kp : Nat} {sg : Nat} {hp : Nat} {hh : Nat} {ht : Nat} {n : Nat} {fo : Int32} {ss : Int32} {tr : Nat → Int32} {hom : Nat → Int32} {T : Nat → Nat → Nat} {hq : Nat} {ow : Nat} {w : Int32} (hT : q_Tr T n tr) (hB : q_Bd T n) (hH : q_Hm T n hom) (how : ow < 2 ^ n) : Met l yX9_burn wsX9_burn ({ frames := 4, cells := 0, slots := 0, locals := 98 } : Room) (va_Pc [.ref xa, .int w] (q_B D (q_tys cI cB cZ) [(xa, .inr (9, [.ref tx, .ref rd, .ref tl, .ref hm, .ref hc, .ref hx0, .ref hn, .ref un, .ref kp, .ref sg])), (hx0, .inr (0, [.ref hm])), (hm, .inr (3, [.ref hp, .ref hh])), (hp, .inr (4, [.ref ht, .int (nI n), .int fo, .int ss])), (ht, .inl (cI, 35, .inl tr)), (hh, .inl (cI, 128, .inl hom)), (hn, .inr (2, [.ref hq, .int (nI ow)]))])) (vp_Si (fun r => r = A_burn T n ss ow w)) 0 0 (fun _ => False) := by
  refine Met.ofW (cc := cX9_burn) (maxL := 2) (ret := (some .int)) (by decide) rfl ?_
  intro p e s m args below meth c s₁ B hml hv
  obtain ⟨rfl, hP, hK⟩ := hv
  have hx := B.exec
  have hb := B.bytes
  have hr := B.returns
  have hts := atoms_spec (ws := wsX9_burn) B.pre
  have hown : s.vm.findClass RX9 = some m.cls := findClass_of_methodNamed B.named
  have hlocks := B.notSynchronized
  have hin2 : ∀ w ∈ u_ws RX2 TX2 2, w ∈ wsX9_burn := by decide +kernel
  have hin9 : ∀ w ∈ u_ws RX9 TX9 10, w ∈ wsX9_burn := by decide +kernel
  have hP : va_P D vwCl [(xa, .inr (9, [.ref tx, .ref rd, .ref tl, .ref hm, .ref hc, .ref hx0, .ref hn, .ref un, .ref kp, .ref sg])), (hx0, .inr (0, [.ref hm])), (hm, .inr (3, [.ref hp, .ref hh])), (hp, .inr (4, [.ref ht, .int (nI n), .int fo, .int ss])), (ht, .inl (cI, 35, .inl tr)), (hh, .inl (cI, 128, .inl hom)), (hn, .inr (2, [.ref hq, .int (nI ow)]))] s.heap := hP
  have hl := lv_entry ([.ref xa, .int w]) (n := 2) (Nat.le_of_ble_eq_true rfl)
  rw [lg_entry_eq]
  generalize (lg_sl ([.ref xa, .int w]) ++ List.replicate (2 - (lg_sl ([.ref xa, .int w])).length) Slot.unset).toArray = ls at hl ⊢
  have hl : lv_has ls 2 [(0, .ref xa), (1, .int w)] := hl
  have hn7 := hB.1
  have hp2 : 2 ^ n ≤ 128 := q_p2 hB.1
  have ho128 := q_S128 hB how
  rcases hw : q_ix (n) w with _ | i
  · refine lv_aload_n hx hb dX9_burn_0 rfl (lv_at hl 0 rfl) ?_
    refine lv_iload_n hx hb dX9_burn_1 rfl (lv_at hl 1 rfl) ?_
    refine q_vi (As := [.int w]) (rest := []) ⟨hx, hb, hml, hown, hts⟩ (c_X9_isPerson l (D := D) (cI := cI) (cB := cB) (cZ := cZ) (xa := xa) (tx := tx) (rd := rd) (tl := tl) (hm := hm) (hc := hc) (hx0 := hx0) (hn := hn) (un := un) (kp := kp) (sg := sg) (hp := hp) (hh := hh) (ht := ht) (n := n) (fo := fo) (ss := ss) (w := w) (by omega)) (cwV 1 hts gX9_burn_X9_isPerson rfl rfl rfl (by decide +kernel) ⟨Nat.le_of_ble_eq_true rfl, Nat.le_of_ble_eq_true rfl⟩) hK hP [0, 2, 3] rfl 0 9 rfl rfl rfl rfl hl.1 rfl (Nat.le_of_ble_eq_true rfl) dX9_burn_2 ⟨Nat.zero_le _, Nat.zero_le _⟩ (fun r_2 hr_2 => ?_)
    have hr_2 : bI false = r_2 := (Eq.trans (show r_2 = bI ((q_ix n w).isSome) from hr_2) (by rw [hw]; rfl)).symm
    subst hr_2
    refine q_bne (tgt := 10) hx hb dX9_burn_5 (by decide) (fun c_5 => ?_) (fun c_5 => ?_)
    · exact absurd c_5 (by decide)
    · refine lv_iconst (v := (-1 : Int32)) hx hb dX9_burn_8 (by decide) ?_
      exact q_zret (v := (-1 : Int32)) hx hb hr hlocks (rfl) (show (-1 : Int32) = A_burn T n ss ow w from by simp only [A_burn, hw]) dX9_burn_9
  · have hwe := q_ixS hw
    have hl : lv_has ls 2 [(0, .ref xa), (1, .int (nI i))] := by rw [← show w = nI i from hwe.1]; exact hl
    refine lv_aload_n hx hb dX9_burn_0 rfl (lv_at hl 0 rfl) ?_
    refine lv_iload_n hx hb dX9_burn_1 rfl (lv_at hl 1 rfl) ?_
    refine q_vi (As := [.int (nI i)]) (rest := []) ⟨hx, hb, hml, hown, hts⟩ (c_X9_isPerson l (D := D) (cI := cI) (cB := cB) (cZ := cZ) (xa := xa) (tx := tx) (rd := rd) (tl := tl) (hm := hm) (hc := hc) (hx0 := hx0) (hn := hn) (un := un) (kp := kp) (sg := sg) (hp := hp) (hh := hh) (ht := ht) (n := n) (fo := fo) (ss := ss) (w := nI i) (by omega)) (cwV 1 hts gX9_burn_X9_isPerson rfl rfl rfl (by decide +kernel) ⟨Nat.le_of_ble_eq_true rfl, Nat.le_of_ble_eq_true rfl⟩) hK hP [0, 2, 3] rfl 0 9 rfl rfl rfl rfl hl.1 rfl (Nat.le_of_ble_eq_true rfl) dX9_burn_2 ⟨Nat.zero_le _, Nat.zero_le _⟩ (fun r_2 hr_2 => ?_)
    have hr_2 : bI true = r_2 := (Eq.trans (show r_2 = bI ((q_ix n (nI i)).isSome) from hr_2) (by rw [q_ixI hwe.2 (by omega)]; rfl)).symm
    subst hr_2
    refine q_bne (tgt := 10) hx hb dX9_burn_5 (by decide) (fun c_5 => ?_) (fun c_5 => ?_)
    · refine lv_aload_n hx hb dX9_burn_10 rfl (lv_at hl 0 rfl) ?_
      refine q_get (ci := 9) (CC := RX9) (T := TX9) (N := 10) (v := .ref hn) hx hb hts hin9 hown hK hP 0 rfl rfl 6 (by decide) (hts (.fieldLink RX9 56 "DearAsMany" "now" "LDearAsMany$Holding;") (by decide +kernel)) rfl rfl dX9_burn_11 ?_
      refine lv_iload_n hx hb dX9_burn_14 rfl (lv_at hl 1 rfl) ?_
      refine q_vi (As := [.int (nI i)]) (rest := []) ⟨hx, hb, hml, hown, hts⟩ (c_X2_owns l (D := D) (cI := cI) (cB := cB) (cZ := cZ) (hn := hn) (hq := hq) (i := i) (ow := ow) (by omega) (by omega)) (cwV 1 hts gX9_burn_X2_owns rfl rfl rfl (by decide +kernel) ⟨Nat.le_of_ble_eq_true rfl, Nat.le_of_ble_eq_true rfl⟩) hK hP [6] rfl 6 2 rfl rfl rfl rfl hl.1 rfl (Nat.le_of_ble_eq_true rfl) dX9_burn_15 ⟨Nat.zero_le _, Nat.zero_le _⟩ (fun r_15 hr_15 => ?_)
      have hr_15 : bI (ow.testBit i) = r_15 := (show r_15 = bI (ow.testBit i) from hr_15).symm
      subst hr_15
      refine q_beq (tgt := 26) hx hb dX9_burn_18 (by decide) (fun c_18 => ?_) (fun c_18 => ?_)
      · refine lv_aload_n hx hb dX9_burn_26 rfl (lv_at hl 0 rfl) ?_
        refine q_get (ci := 9) (CC := RX9) (T := TX9) (N := 10) (v := .ref hx0) hx hb hts hin9 hown hK hP 0 rfl rfl 5 (by decide) (hts (.fieldLink RX9 49 "DearAsMany" "counsel" "LDearAsMany$Counsel;") (by decide +kernel)) rfl rfl dX9_burn_27 ?_
        refine lv_iload_n hx hb dX9_burn_30 rfl (lv_at hl 1 rfl) ?_
        refine lv_aload_n hx hb dX9_burn_31 rfl (lv_at hl 0 rfl) ?_
        refine q_get (ci := 9) (CC := RX9) (T := TX9) (N := 10) (v := .ref hn) hx hb hts hin9 hown hK hP 0 rfl rfl 6 (by decide) (hts (.fieldLink RX9 56 "DearAsMany" "now" "LDearAsMany$Holding;") (by decide +kernel)) rfl rfl dX9_burn_32 ?_
        refine q_get (ci := 2) (CC := RX2) (T := TX2) (N := 2) (v := .int (nI ow)) hx hb hts hin2 hown hK hP 6 rfl rfl 1 (by decide) (hts (.fieldLink RX9 135 "DearAsMany$Holding" "owners" "I") (by decide +kernel)) rfl rfl dX9_burn_35 ?_
        refine q_vi (As := [.int (nI i), .int (nI ow)]) (rest := []) ⟨hx, hb, hml, hown, hts⟩ (c_X0_leastBurnt l (D := D) (cI := cI) (cB := cB) (cZ := cZ) (hx0 := hx0) (hm := hm) (hp := hp) (hh := hh) (ht := ht) (n := n) (fo := fo) (ss := ss) (tr := tr) (hom := hom) (T := T) (i := i) (ow := ow) (by first | assumption | exact Nat.zero_le _ | omega) (by first | assumption | exact Nat.zero_le _ | omega) (by first | assumption | exact Nat.zero_le _ | omega) (hwe.2) (by first | assumption | exact Nat.zero_le _ | omega)) (cwV 2 hts gX9_burn_X0_leastBurnt rfl rfl rfl (by decide +kernel) ⟨Nat.le_of_ble_eq_true rfl, Nat.le_of_ble_eq_true rfl⟩) hK hP [1, 2, 3, 4, 5] rfl 1 0 rfl rfl rfl rfl hl.1 rfl (Nat.le_of_ble_eq_true rfl) dX9_burn_38 ⟨Nat.zero_le _, Nat.zero_le _⟩ (fun r_38 hr_38 => ?_)
        have hr_38 : q_oc (q_min (q_bn T n ss i ow) (ow + 1)) = r_38 := (show r_38 = q_oc (q_min (q_bn T n ss i ow) (ow + 1)) from hr_38).symm
        subst hr_38
        exact q_zret (v := q_oc (q_min (q_bn T n ss i ow) (ow + 1))) hx hb hr hlocks (rfl) (show q_oc (q_min (q_bn T n ss i ow) (ow + 1)) = A_burn T n ss ow w from by simp only [A_burn, hw, c_18]; rfl) dX9_burn_41
      · refine lv_bipush (v := (-2 : Int32)) hx hb dX9_burn_21 (by decide) ?_
        refine lv_goto (tgt := 41) hx hb dX9_burn_23 (by decide) ?_
        exact q_zret (v := (-2 : Int32)) hx hb hr hlocks (rfl) (show (-2 : Int32) = A_burn T n ss ow w from by simp only [A_burn, hw, c_18]; rfl) dX9_burn_41
    · exact absurd c_5 (by decide)

set_option maxHeartbeats 4000000 in
set_option maxRecDepth 100000 in
theorem c_X9_share (l : Launch) {D : va_G} {cI cB cZ : ClassId} {xa : Nat} {tx : Nat} {rd : Nat} {tl : Nat} {hm : Nat} {hc : Nat} {hx0 : Nat} {hn : Nat} {un : Nat} {kp : Nat} {sg : Nat} {hp : Nat} {hh : Nat} {ht : Nat} {n : Nat} {fo : Int32} {ss : Int32} {tr : Nat → Int32} {hom : Nat → Int32} {T : Nat → Nat → Nat} {hq : Nat} {ow : Nat} (hT : q_Tr T n tr) (hB : q_Bd T n) (hH : q_Hm T n hom) (how : ow < 2 ^ n) : Met l yX9_share wsX9_share ({ frames := 4, cells := 0, slots := 0, locals := 98 } : Room) (va_Pc [.ref xa] (q_B D (q_tys cI cB cZ) [(xa, .inr (9, [.ref tx, .ref rd, .ref tl, .ref hm, .ref hc, .ref hx0, .ref hn, .ref un, .ref kp, .ref sg])), (hx0, .inr (0, [.ref hm])), (hm, .inr (3, [.ref hp, .ref hh])), (hp, .inr (4, [.ref ht, .int (nI n), .int fo, .int ss])), (ht, .inl (cI, 35, .inl tr)), (hh, .inl (cI, 128, .inl hom)), (hn, .inr (2, [.ref hq, .int (nI ow)]))])) (vp_Si (fun r => r = A_share T n ss ow)) 0 0 (fun _ => False) := by
  refine Met.ofW (cc := cX9_share) (maxL := 1) (ret := (some .int)) (by decide) rfl ?_
  intro p e s m args below meth c s₁ B hml hv
  obtain ⟨rfl, hP, hK⟩ := hv
  have hx := B.exec
  have hb := B.bytes
  have hr := B.returns
  have hts := atoms_spec (ws := wsX9_share) B.pre
  have hown : s.vm.findClass RX9 = some m.cls := findClass_of_methodNamed B.named
  have hlocks := B.notSynchronized
  have hin2 : ∀ w ∈ u_ws RX2 TX2 2, w ∈ wsX9_share := by decide +kernel
  have hin9 : ∀ w ∈ u_ws RX9 TX9 10, w ∈ wsX9_share := by decide +kernel
  have hP : va_P D vwCl [(xa, .inr (9, [.ref tx, .ref rd, .ref tl, .ref hm, .ref hc, .ref hx0, .ref hn, .ref un, .ref kp, .ref sg])), (hx0, .inr (0, [.ref hm])), (hm, .inr (3, [.ref hp, .ref hh])), (hp, .inr (4, [.ref ht, .int (nI n), .int fo, .int ss])), (ht, .inl (cI, 35, .inl tr)), (hh, .inl (cI, 128, .inl hom)), (hn, .inr (2, [.ref hq, .int (nI ow)]))] s.heap := hP
  have hl := lv_entry ([.ref xa]) (n := 1) (Nat.le_of_ble_eq_true rfl)
  rw [lg_entry_eq]
  generalize (lg_sl ([.ref xa]) ++ List.replicate (1 - (lg_sl ([.ref xa])).length) Slot.unset).toArray = ls at hl ⊢
  have hl : lv_has ls 1 [(0, .ref xa)] := hl
  refine lv_aload_n hx hb dX9_share_0 rfl (lv_at hl 0 rfl) ?_
  refine q_get (ci := 9) (CC := RX9) (T := TX9) (N := 10) (v := .ref hx0) hx hb hts hin9 hown hK hP 0 rfl rfl 5 (by decide) (hts (.fieldLink RX9 49 "DearAsMany" "counsel" "LDearAsMany$Counsel;") (by decide +kernel)) rfl rfl dX9_share_1 ?_
  refine lv_aload_n hx hb dX9_share_4 rfl (lv_at hl 0 rfl) ?_
  refine q_get (ci := 9) (CC := RX9) (T := TX9) (N := 10) (v := .ref hn) hx hb hts hin9 hown hK hP 0 rfl rfl 6 (by decide) (hts (.fieldLink RX9 56 "DearAsMany" "now" "LDearAsMany$Holding;") (by decide +kernel)) rfl rfl dX9_share_5 ?_
  refine q_get (ci := 2) (CC := RX2) (T := TX2) (N := 2) (v := .int (nI ow)) hx hb hts hin2 hown hK hP 6 rfl rfl 1 (by decide) (hts (.fieldLink RX9 135 "DearAsMany$Holding" "owners" "I") (by decide +kernel)) rfl rfl dX9_share_8 ?_
  refine q_vi (As := [.int (nI ow)]) (rest := []) ⟨hx, hb, hml, hown, hts⟩ (c_X0_bestPair l (D := D) (cI := cI) (cB := cB) (cZ := cZ) (hx0 := hx0) (hm := hm) (hp := hp) (hh := hh) (ht := ht) (n := n) (fo := fo) (ss := ss) (tr := tr) (hom := hom) (T := T) (ow := ow) (by first | assumption | exact Nat.zero_le _ | omega) (by first | assumption | exact Nat.zero_le _ | omega) (by first | assumption | exact Nat.zero_le _ | omega) (by first | assumption | exact Nat.zero_le _ | omega)) (cwV 1 hts gX9_share_X0_bestPair rfl rfl rfl (by decide +kernel) ⟨Nat.le_of_ble_eq_true rfl, Nat.le_of_ble_eq_true rfl⟩) hK hP [1, 2, 3, 4, 5] rfl 1 0 rfl rfl rfl rfl hl.1 rfl (Nat.le_of_ble_eq_true rfl) dX9_share_11 ⟨Nat.zero_le _, Nat.zero_le _⟩ (fun r_11 hr_11 => ?_)
  have hr_11 : (q_b1 (q_gv T n ss ow) n n 0 ((-4 : Int32), nI 0)).1 = r_11 := (show r_11 = (q_b1 (q_gv T n ss ow) n n 0 ((-4 : Int32), nI 0)).1 from hr_11).symm
  subst hr_11
  exact q_zret (v := (q_b1 (q_gv T n ss ow) n n 0 ((-4 : Int32), nI 0)).1) hx hb hr hlocks (rfl) (show (q_b1 (q_gv T n ss ow) n n 0 ((-4 : Int32), nI 0)).1 = A_share T n ss ow from rfl) dX9_share_14

set_option maxHeartbeats 4000000 in
set_option maxRecDepth 100000 in
theorem c_X9_likes (l : Launch) {D : va_G} {cI cB cZ : ClassId} {xa : Nat} {tx : Nat} {rd : Nat} {tl : Nat} {hm : Nat} {hc : Nat} {hx0 : Nat} {hn : Nat} {un : Nat} {kp : Nat} {sg : Nat} {hp : Nat} {hh : Nat} {ht : Nat} {n : Nat} {fo : Int32} {ss : Int32} {w : Int32} {v : Int32} {tr : Nat → Int32} {T : Nat → Nat → Nat} {sp : Nat} {so : Nat} {sb : Nat} {sc : Nat} {sP : Nat → Int32} {sO : Nat → Int32} {sB : Nat → Int32} {SP : Nat → Nat} {SO : Nat → Nat} {SB : Nat → Bool} (hT : q_Tr T n tr) (hB : q_Bd T n) (hSg : q_Sg sc SP SO SB sP sO sB) : Met l yX9_likes wsX9_likes ({ frames := 2, cells := 0, slots := 0, locals := 50 } : Room) (va_Pc [.ref xa, .int w, .int v] (q_B D (q_tys cI cB cZ) [(xa, .inr (9, [.ref tx, .ref rd, .ref tl, .ref hm, .ref hc, .ref hx0, .ref hn, .ref un, .ref kp, .ref sg])), (hm, .inr (3, [.ref hp, .ref hh])), (hp, .inr (4, [.ref ht, .int (nI n), .int fo, .int ss])), (ht, .inl (cI, 35, .inl tr)), (sg, .inr (7, [.ref sp, .ref so, .ref sb, .int (nI sc)])), (sp, .inl (cI, 8, .inl sP)), (so, .inl (cI, 8, .inl sO)), (sb, .inl (cZ, 8, .inl sB))])) (vp_Si (fun r => r = A_likes T n sc SP SO SB w v)) 0 0 (fun _ => False) := by
  refine Met.ofW (cc := cX9_likes) (maxL := 6) (ret := (some .int)) (by decide) rfl ?_
  intro p e s m args below meth c s₁ B hml hv
  obtain ⟨rfl, hP, hK⟩ := hv
  have hx := B.exec
  have hb := B.bytes
  have hr := B.returns
  have hts := atoms_spec (ws := wsX9_likes) B.pre
  have hown : s.vm.findClass RX9 = some m.cls := findClass_of_methodNamed B.named
  have hlocks := B.notSynchronized
  have hin3 : ∀ w ∈ u_ws RX3 TX3 2, w ∈ wsX9_likes := by decide +kernel
  have hin9 : ∀ w ∈ u_ws RX9 TX9 10, w ∈ wsX9_likes := by decide +kernel
  have hP : va_P D vwCl [(xa, .inr (9, [.ref tx, .ref rd, .ref tl, .ref hm, .ref hc, .ref hx0, .ref hn, .ref un, .ref kp, .ref sg])), (hm, .inr (3, [.ref hp, .ref hh])), (hp, .inr (4, [.ref ht, .int (nI n), .int fo, .int ss])), (ht, .inl (cI, 35, .inl tr)), (sg, .inr (7, [.ref sp, .ref so, .ref sb, .int (nI sc)])), (sp, .inl (cI, 8, .inl sP)), (so, .inl (cI, 8, .inl sO)), (sb, .inl (cZ, 8, .inl sB))] s.heap := hP
  have hl := lv_entry ([.ref xa, .int w, .int v]) (n := 6) (Nat.le_of_ble_eq_true rfl)
  rw [lg_entry_eq]
  generalize (lg_sl ([.ref xa, .int w, .int v]) ++ List.replicate (6 - (lg_sl ([.ref xa, .int w, .int v])).length) Slot.unset).toArray = ls at hl ⊢
  have hl : lv_has ls 6 [(0, .ref xa), (1, .int w), (2, .int v)] := hl
  have hn7 := hB.1
  have L27 : ∀ (fuel : Nat) (j : Nat) (i : Nat) (hj : j ≤ 100) (hi : i < n) (hw : q_ix n w = some i) (hv : q_eit v = true) (hf : j < fuel) (ls : Array Slot) (hl : lv_has ls 6 [(0, .ref xa), (1, .int (nI i)), (2, .int v), (3, .int (nI ((q_lks (q_lkP T i sc SP SO SB) (100 - j)).1))), (4, .int ((q_lks (q_lkP T i sc SP SO SB) (100 - j)).2)), (5, .int (q_pr j))]), W p l e (headSpec wsX9_likes ({ frames := 2, cells := 0, slots := 0, locals := 50 } : Room)).room s m ([.ref xa, .int w, .int v] : List Value).toArray below meth c s.heap [] 0 0 (MQ below (vp_Si (fun r => r = A_likes T n sc SP SO SB w v)) ([.ref xa, .int w, .int v] : List Value).toArray s 0 0 (fun _ => False)) (F0 m 27 ls []) := by
    intro fuel
    induction fuel with
    | zero =>
      intro j i hj hi hw hv hf ls hl
      exact absurd hf (Nat.not_lt_zero _)
    | succ fuel ih27 =>
      intro j i hj hi hw hv hf ls hl
      rcases q_zs j with hz | ⟨j1, hj1⟩
      · have hl : lv_has ls 6 [(0, .ref xa), (1, .int (nI i)), (2, .int v), (3, .int (nI ((q_lks (q_lkP T i sc SP SO SB) (100 - j)).1))), (4, .int ((q_lks (q_lkP T i sc SP SO SB) (100 - j)).2)), (5, .int (-1 : Int32))] := by rw [← show q_pr j = (-1 : Int32) from by rw [hz]; rfl]; exact hl
        refine lv_iload hx hb dX9_likes_27 (lv_at hl 5 rfl) ?_
        refine lv_if_lt (x := (-1 : Int32)) (tgt := 65) hx hb dX9_likes_29 (by decide) (fun c_29 => ?_) (fun c_29 => ?_)
        · refine lv_iload_n hx hb dX9_likes_65 rfl (lv_at hl 2 rfl) ?_
          refine lv_if_ne (x := v) (tgt := 73) hx hb dX9_likes_66 (by decide) (fun c_66 => ?_) (fun c_66 => ?_)
          · refine lv_iload hx hb dX9_likes_73 (lv_at hl 4 rfl) ?_
            exact q_zret (v := (q_lks (q_lkP T i sc SP SO SB) (100 - j)).2) hx hb hr hlocks (rfl) (show (q_lks (q_lkP T i sc SP SO SB) (100 - j)).2 = A_likes T n sc SP SO SB w v from by simp only [A_likes, hw]; rw [if_neg (show ¬ v = nI 0 from c_66), if_pos (show v = nI 1 from (of_decide_eq_true hv).elim (fun z => absurd z c_66) id), hz]) dX9_likes_75
          · refine lv_iload_n hx hb dX9_likes_69 rfl (lv_at hl 3 rfl) ?_
            refine lv_goto (tgt := 75) hx hb dX9_likes_70 (by decide) ?_
            exact q_zret (v := nI ((q_lks (q_lkP T i sc SP SO SB) (100 - j)).1)) hx hb hr hlocks (rfl) (show nI ((q_lks (q_lkP T i sc SP SO SB) (100 - j)).1) = A_likes T n sc SP SO SB w v from by simp only [A_likes, hw]; rw [if_pos (show v = nI 0 from c_66), hz]) dX9_likes_75
        · exact absurd c_29 ((by decide))
      · have hl : lv_has ls 6 [(0, .ref xa), (1, .int (nI i)), (2, .int v), (3, .int (nI ((q_lks (q_lkP T i sc SP SO SB) (100 - j)).1))), (4, .int ((q_lks (q_lkP T i sc SP SO SB) (100 - j)).2)), (5, .int (nI j1))] := by rw [← show q_pr j = nI j1 from by rw [hj1]; rfl]; exact hl
        refine lv_iload hx hb dX9_likes_27 (lv_at hl 5 rfl) ?_
        refine q_zlt (tgt := 65) hx hb dX9_likes_29 (by decide) (by omega) (fun c_29 => ?_) (fun c_29 => ?_)
        · exact absurd c_29 (Nat.not_lt_zero _)
        · refine lv_aload_n hx hb dX9_likes_32 rfl (lv_at hl 0 rfl) ?_
          refine q_get (ci := 9) (CC := RX9) (T := TX9) (N := 10) (v := .ref sg) hx hb hts hin9 hown hK hP 0 rfl rfl 9 (by decide) (hts (.fieldLink RX9 75 "DearAsMany" "sightings" "LDearAsMany$Sightings;") (by decide +kernel)) rfl rfl dX9_likes_33 ?_
          refine lv_iload_n hx hb dX9_likes_36 rfl (lv_at hl 1 rfl) ?_
          refine lv_iload hx hb dX9_likes_37 (lv_at hl 5 rfl) ?_
          refine lv_aload_n hx hb dX9_likes_39 rfl (lv_at hl 0 rfl) ?_
          refine q_get (ci := 9) (CC := RX9) (T := TX9) (N := 10) (v := .ref hm) hx hb hts hin9 hown hK hP 0 rfl rfl 3 (by decide) (hts (.fieldLink RX9 33 "DearAsMany" "market" "LDearAsMany$Market;") (by decide +kernel)) rfl rfl dX9_likes_40 ?_
          refine q_get (ci := 3) (CC := RX3) (T := TX3) (N := 2) (v := .ref hp) hx hb hts hin3 hown hK hP 1 rfl rfl 0 (by decide) (hts (.fieldLink RX9 108 "DearAsMany$Market" "people" "LDearAsMany$People;") (by decide +kernel)) rfl rfl dX9_likes_43 ?_
          refine q_vi (As := [.int (nI i), .int (nI j1), .ref hp]) (rest := []) ⟨hx, hb, hml, hown, hts⟩ (c_X7_fit l (D := D) (cI := cI) (cB := cB) (cZ := cZ) (sg := sg) (sp := sp) (so := so) (sb := sb) (sc := sc) (sP := sP) (sO := sO) (sB := sB) (i := i) (v := j1) (hp := hp) (ht := ht) (n := n) (fo := fo) (ss := ss) (tr := tr) (T := T) (SP := SP) (SO := SO) (SB := SB) (by first | assumption | exact Nat.zero_le _ | omega) (by first | assumption | exact Nat.zero_le _ | omega) (by first | assumption | exact Nat.zero_le _ | omega) (by first | assumption | exact Nat.zero_le _ | omega)) (cwV 3 hts gX9_likes_X7_fit rfl rfl rfl (by decide +kernel) ⟨Nat.le_of_ble_eq_true rfl, Nat.le_of_ble_eq_true rfl⟩) hK hP [4, 5, 6, 7, 2, 3] rfl 4 7 rfl rfl rfl rfl hl.1 rfl (Nat.le_of_ble_eq_true rfl) dX9_likes_46 ⟨Nat.zero_le _, Nat.zero_le _⟩ (fun r_46 hr_46 => ?_)
          have hr_46 : bI (q_ft T i j1 SP SO SB sc) = r_46 := (show r_46 = bI (q_ft T i j1 SP SO SB sc) from hr_46).symm
          subst hr_46
          refine q_beq (tgt := 59) hx hb dX9_likes_49 (by decide) (fun c_49 => ?_) (fun c_49 => ?_)
          · refine lv_iinc (v := q_pr j1) (lv' := [(5, .int (q_pr j1)), (0, .ref xa), (1, .int (nI i)), (2, .int v), (3, .int (nI ((q_lks (q_lkP T i sc SP SO SB) (100 - j)).1))), (4, .int ((q_lks (q_lkP T i sc SP SO SB) (100 - j)).2))]) hx hb dX9_likes_59 hl (k := 5) rfl (q_prS) (by decide) rfl (fun ls hl => ?_)
            refine lv_goto (tgt := 27) hx hb dX9_likes_62 (by decide) ?_
            have hl : lv_has ls 6 [(5, .int (q_pr j1)), (0, .ref xa), (1, .int (nI i)), (2, .int v), (3, .int (nI ((q_lks (q_lkP T i sc SP SO SB) (100 - j1)).1))), (4, .int ((q_lks (q_lkP T i sc SP SO SB) (100 - j)).2))] := by rw [← show nI ((q_lks (q_lkP T i sc SP SO SB) (100 - j)).1) = nI ((q_lks (q_lkP T i sc SP SO SB) (100 - j1)).1) from by rw [hj1, q_lksF (P := q_lkP T i sc SP SO SB) (by omega) c_49]]; exact hl
            have hl : lv_has ls 6 [(5, .int (q_pr j1)), (0, .ref xa), (1, .int (nI i)), (2, .int v), (3, .int (nI ((q_lks (q_lkP T i sc SP SO SB) (100 - j1)).1))), (4, .int ((q_lks (q_lkP T i sc SP SO SB) (100 - j1)).2))] := by rw [← show (q_lks (q_lkP T i sc SP SO SB) (100 - j)).2 = (q_lks (q_lkP T i sc SP SO SB) (100 - j1)).2 from by rw [hj1, q_lksF (P := q_lkP T i sc SP SO SB) (by omega) c_49]]; exact hl
            exact ih27 j1 i (by omega) (hi) (hw) (hv) (by omega) ls (lv_sub hl [1, 2, 3, 4, 5, 0] rfl)
          · refine lv_iinc (v := nI (((q_lks (q_lkP T i sc SP SO SB) (100 - j)).1) + 1)) (lv' := [(3, .int (nI (((q_lks (q_lkP T i sc SP SO SB) (100 - j)).1) + 1))), (0, .ref xa), (1, .int (nI i)), (2, .int v), (4, .int ((q_lks (q_lkP T i sc SP SO SB) (100 - j)).2)), (5, .int (nI j1))]) hx hb dX9_likes_52 hl (k := 3) rfl (nI_add _ 1) (by decide) rfl (fun ls hl => ?_)
            refine lv_iload hx hb dX9_likes_55 (lv_at hl 5 rfl) ?_
            refine lv_istore (lv' := [(4, .int (nI j1)), (3, .int (nI (((q_lks (q_lkP T i sc SP SO SB) (100 - j)).1) + 1))), (0, .ref xa), (1, .int (nI i)), (2, .int v), (5, .int (nI j1))]) hx hb dX9_likes_57 hl (by decide) rfl (fun ls hl => ?_)
            refine lv_iinc (v := q_pr j1) (lv' := [(5, .int (q_pr j1)), (4, .int (nI j1)), (3, .int (nI (((q_lks (q_lkP T i sc SP SO SB) (100 - j)).1) + 1))), (0, .ref xa), (1, .int (nI i)), (2, .int v)]) hx hb dX9_likes_59 hl (k := 5) rfl (q_prS) (by decide) rfl (fun ls hl => ?_)
            refine lv_goto (tgt := 27) hx hb dX9_likes_62 (by decide) ?_
            have hl : lv_has ls 6 [(5, .int (q_pr j1)), (4, .int (nI j1)), (3, .int (nI ((q_lks (q_lkP T i sc SP SO SB) (100 - j1)).1))), (0, .ref xa), (1, .int (nI i)), (2, .int v)] := by rw [← show nI (((q_lks (q_lkP T i sc SP SO SB) (100 - j)).1) + 1) = nI ((q_lks (q_lkP T i sc SP SO SB) (100 - j1)).1) from by rw [hj1, q_lksT (P := q_lkP T i sc SP SO SB) (by omega) c_49]]; exact hl
            have hl : lv_has ls 6 [(5, .int (q_pr j1)), (4, .int ((q_lks (q_lkP T i sc SP SO SB) (100 - j1)).2)), (3, .int (nI ((q_lks (q_lkP T i sc SP SO SB) (100 - j1)).1))), (0, .ref xa), (1, .int (nI i)), (2, .int v)] := by rw [← show nI j1 = (q_lks (q_lkP T i sc SP SO SB) (100 - j1)).2 from by rw [q_lksT (P := q_lkP T i sc SP SO SB) (by omega) c_49]]; exact hl
            exact ih27 j1 i (by omega) (hi) (hw) (hv) (by omega) ls (lv_sub hl [3, 4, 5, 2, 1, 0] rfl)
  rcases hw : q_ix (n) w with _ | i
  · refine lv_aload_n hx hb dX9_likes_0 rfl (lv_at hl 0 rfl) ?_
    refine lv_iload_n hx hb dX9_likes_1 rfl (lv_at hl 1 rfl) ?_
    refine q_vi (As := [.int w]) (rest := []) ⟨hx, hb, hml, hown, hts⟩ (c_X9_isPerson l (D := D) (cI := cI) (cB := cB) (cZ := cZ) (xa := xa) (tx := tx) (rd := rd) (tl := tl) (hm := hm) (hc := hc) (hx0 := hx0) (hn := hn) (un := un) (kp := kp) (sg := sg) (hp := hp) (hh := hh) (ht := ht) (n := n) (fo := fo) (ss := ss) (w := w) (by omega)) (cwV 1 hts gX9_likes_X9_isPerson rfl rfl rfl (by decide +kernel) ⟨Nat.le_of_ble_eq_true rfl, Nat.le_of_ble_eq_true rfl⟩) hK hP [0, 1, 2] rfl 0 9 rfl rfl rfl rfl hl.1 rfl (Nat.le_of_ble_eq_true rfl) dX9_likes_2 ⟨Nat.zero_le _, Nat.zero_le _⟩ (fun r_2 hr_2 => ?_)
    have hr_2 : bI false = r_2 := (Eq.trans (show r_2 = bI ((q_ix n w).isSome) from hr_2) (by rw [hw]; rfl)).symm
    subst hr_2
    refine q_beq (tgt := 15) hx hb dX9_likes_5 (by decide) (fun c_5 => ?_) (fun c_5 => ?_)
    · refine lv_iconst (v := (-1 : Int32)) hx hb dX9_likes_15 (by decide) ?_
      exact q_zret (v := (-1 : Int32)) hx hb hr hlocks (rfl) (show (-1 : Int32) = A_likes T n sc SP SO SB w v from by simp only [A_likes, hw]) dX9_likes_16
    · exact absurd c_5 (by decide)
  · have hwe := q_ixS hw
    have hl : lv_has ls 6 [(0, .ref xa), (1, .int (nI i)), (2, .int v)] := by rw [← show w = nI i from hwe.1]; exact hl
    refine lv_aload_n hx hb dX9_likes_0 rfl (lv_at hl 0 rfl) ?_
    refine lv_iload_n hx hb dX9_likes_1 rfl (lv_at hl 1 rfl) ?_
    refine q_vi (As := [.int (nI i)]) (rest := []) ⟨hx, hb, hml, hown, hts⟩ (c_X9_isPerson l (D := D) (cI := cI) (cB := cB) (cZ := cZ) (xa := xa) (tx := tx) (rd := rd) (tl := tl) (hm := hm) (hc := hc) (hx0 := hx0) (hn := hn) (un := un) (kp := kp) (sg := sg) (hp := hp) (hh := hh) (ht := ht) (n := n) (fo := fo) (ss := ss) (w := nI i) (by omega)) (cwV 1 hts gX9_likes_X9_isPerson rfl rfl rfl (by decide +kernel) ⟨Nat.le_of_ble_eq_true rfl, Nat.le_of_ble_eq_true rfl⟩) hK hP [0, 1, 2] rfl 0 9 rfl rfl rfl rfl hl.1 rfl (Nat.le_of_ble_eq_true rfl) dX9_likes_2 ⟨Nat.zero_le _, Nat.zero_le _⟩ (fun r_2 hr_2 => ?_)
    have hr_2 : bI true = r_2 := (Eq.trans (show r_2 = bI ((q_ix n (nI i)).isSome) from hr_2) (by rw [q_ixI hwe.2 (by omega)]; rfl)).symm
    subst hr_2
    refine q_beq (tgt := 15) hx hb dX9_likes_5 (by decide) (fun c_5 => ?_) (fun c_5 => ?_)
    · exact absurd c_5 (by decide)
    · refine lv_iload_n hx hb dX9_likes_8 rfl (lv_at hl 2 rfl) ?_
      refine q_si (As := [.int v]) (rest := []) ⟨hx, hb, hml, hown, hts⟩ (c_X9_isEither l (D := D) (cI := cI) (cB := cB) (cZ := cZ) (w := v) ) (va_cwS 1 hts gX9_likes_X9_isEither rfl rfl rfl (by decide +kernel) ⟨Nat.le_of_ble_eq_true rfl, Nat.le_of_ble_eq_true rfl⟩) hK hP [] rfl rfl hl.1 rfl (Nat.le_of_ble_eq_true rfl) dX9_likes_9 ⟨Nat.zero_le _, Nat.zero_le _⟩ (fun r_9 hr_9 => ?_)
      have hr_9 : bI (q_eit v) = r_9 := (show r_9 = bI (q_eit v) from hr_9).symm
      subst hr_9
      refine q_bne (tgt := 17) hx hb dX9_likes_12 (by decide) (fun c_12 => ?_) (fun c_12 => ?_)
      · refine lv_iconst (v := nI 0) hx hb dX9_likes_17 (by decide) ?_
        refine lv_istore_n (lv' := [(3, .int (nI 0)), (0, .ref xa), (1, .int (nI i)), (2, .int v)]) hx hb dX9_likes_18 rfl hl (by decide) rfl (fun ls hl => ?_)
        refine lv_bipush (v := (-4 : Int32)) hx hb dX9_likes_19 (by decide) ?_
        refine lv_istore (lv' := [(4, .int (-4 : Int32)), (3, .int (nI 0)), (0, .ref xa), (1, .int (nI i)), (2, .int v)]) hx hb dX9_likes_21 hl (by decide) rfl (fun ls hl => ?_)
        refine lv_bipush (v := nI 99) hx hb dX9_likes_23 (by decide) ?_
        refine lv_istore (lv' := [(5, .int (nI 99)), (4, .int (-4 : Int32)), (3, .int (nI 0)), (0, .ref xa), (1, .int (nI i)), (2, .int v)]) hx hb dX9_likes_25 hl (by decide) rfl (fun ls hl => ?_)
        exact L27 _ 100 i (by decide) (hwe.2) (hw) (c_12) (Nat.lt_succ_self _) ls (lv_sub hl [3, 4, 5, 2, 1, 0] rfl)
      · refine lv_iconst (v := (-1 : Int32)) hx hb dX9_likes_15 (by decide) ?_
        exact q_zret (v := (-1 : Int32)) hx hb hr hlocks (rfl) (show (-1 : Int32) = A_likes T n sc SP SO SB w v from by simp only [A_likes, hw]; rw [if_neg (q_eitN c_12).1, if_neg (q_eitN c_12).2]) dX9_likes_16
