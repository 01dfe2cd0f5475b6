set_option maxHeartbeats 4000000 in
set_option maxRecDepth 100000 in
/-- BEHIND so many ROUNDS -/
theorem c_X1_ownersBehind (l : Launch) {D : va_G} {cI cB cZ : ClassId} {hc : Nat} {ho : Nat} {hm : Nat} {hp : Nat} {hh : Nat} {ht : Nat} {n : Nat} {fo : Int32} {ss : Int32} {tr : Nat → Int32} {hom : Nat → Int32} {T : Nat → Nat → Nat} {S : Nat} {q : Nat} {t : Bool} (hT : q_Tr T n tr) (hB : q_Bd T n) (hH : q_Hm T n hom) (hS : S < 2 ^ n) (hq0 : q < 2147483647) : Met l yX1_ownersBehind wsX1_ownersBehind ({ frames := 4, cells := 0, slots := 0, locals := 97 } : Room) (va_Pc [.ref hc, .int (nI S), .int (nI q), .int (bI t)] (q_B D (q_tys cI cB cZ) [(hc, .inr (1, [.ref hm, .ref ho])), (hm, .inr (3, [.ref hp, .ref hh])), (hp, .inr (4, [.ref ht, .int (nI n), .int fo, .int ss])), (ht, .inl (cI, 35, .inl tr)), (hh, .inl (cI, 128, .inl hom))])) (vp_Si (fun r => r = nI (q_it (q_rd T n ss t) q S))) 0 0 (fun _ => False) := by
  refine Met.ofW (cc := cX1_ownersBehind) (maxL := 7) (ret := (some .int)) (by decide) rfl ?_
  intro p e s m args below meth c s₁ B hml hv
  obtain ⟨rfl, hP, hK⟩ := hv
  have hx := B.exec
  have hb := B.bytes
  have hr := B.returns
  have hts := atoms_spec (ws := wsX1_ownersBehind) B.pre
  have hown : s.vm.findClass RX1 = some m.cls := findClass_of_methodNamed B.named
  have hlocks := B.notSynchronized
  have hin1 : ∀ w ∈ u_ws RX1 TX1 2, w ∈ wsX1_ownersBehind := by decide +kernel
  have hin3 : ∀ w ∈ u_ws RX3 TX3 2, w ∈ wsX1_ownersBehind := by decide +kernel
  have hin4 : ∀ w ∈ u_ws RX4 TX4 4, w ∈ wsX1_ownersBehind := by decide +kernel
  have hP : va_P D vwCl [(hc, .inr (1, [.ref hm, .ref ho])), (hm, .inr (3, [.ref hp, .ref hh])), (hp, .inr (4, [.ref ht, .int (nI n), .int fo, .int ss])), (ht, .inl (cI, 35, .inl tr)), (hh, .inl (cI, 128, .inl hom))] s.heap := hP
  have hl := lv_entry ([.ref hc, .int (nI S), .int (nI q), .int (bI t)]) (n := 7) (Nat.le_of_ble_eq_true rfl)
  rw [lg_entry_eq]
  generalize (lg_sl ([.ref hc, .int (nI S), .int (nI q), .int (bI t)]) ++ List.replicate (7 - (lg_sl ([.ref hc, .int (nI S), .int (nI q), .int (bI t)])).length) Slot.unset).toArray = ls at hl ⊢
  have hl : lv_has ls 7 [(0, .ref hc), (1, .int (nI S)), (2, .int (nI q)), (3, .int (bI t))] := hl
  have hn7 := hB.1
  have hp2 : 2 ^ n ≤ 128 := q_p2 hB.1
  have L18 : ∀ (fuel : Nat) (k : Nat) (hk : k ≤ q) (hf : q - k < fuel) (ls : Array Slot) (hl : lv_has ls 7 [(0, .ref hc), (1, .int (nI S)), (2, .int (nI q)), (3, .int (bI t)), (4, .int ss), (5, .int (nI (q_it (q_rd T n ss t) k S))), (6, .int (nI k))]), W p l e (headSpec wsX1_ownersBehind ({ frames := 4, cells := 0, slots := 0, locals := 97 } : Room)).room s m ([.ref hc, .int (nI S), .int (nI q), .int (bI t)] : List Value).toArray below meth c s.heap [] 0 0 (MQ below (vp_Si (fun r => r = nI (q_it (q_rd T n ss t) q S))) ([.ref hc, .int (nI S), .int (nI q), .int (bI t)] : List Value).toArray s 0 0 (fun _ => False)) (F0 m 18 ls []) := by
    intro fuel
    induction fuel with
    | zero =>
      intro k hk hf ls hl
      exact absurd hf (Nat.not_lt_zero _)
    | succ fuel ih18 =>
      intro k hk hf ls hl
      refine lv_iload hx hb dX1_ownersBehind_18 (lv_at hl 6 rfl) ?_
      refine lv_iload_n hx hb dX1_ownersBehind_20 rfl (lv_at hl 2 rfl) ?_
      refine q_nge (tgt := 44) hx hb dX1_ownersBehind_21 (by decide) (by omega) (by omega) (fun c_21 => ?_) (fun c_21 => ?_)
      · refine lv_iload hx hb dX1_ownersBehind_44 (lv_at hl 5 rfl) ?_
        exact q_zret (v := nI (q_it (q_rd T n ss t) k S)) hx hb hr hlocks (rfl) (show nI (q_it (q_rd T n ss t) k S) = nI (q_it (q_rd T n ss t) q S) from by rw [show k = q from by omega]) dX1_ownersBehind_46
      · refine lv_aload_n hx hb dX1_ownersBehind_24 rfl (lv_at hl 0 rfl) ?_
        refine q_get (ci := 1) (CC := RX1) (T := TX1) (N := 2) (v := .ref hm) hx hb hts hin1 hown hK hP 0 rfl rfl 0 (by decide) (hts (.fieldLink RX1 15 "DearAsMany$Course" "market" "LDearAsMany$Market;") (by decide +kernel)) rfl rfl dX1_ownersBehind_25 ?_
        refine lv_iload hx hb dX1_ownersBehind_28 (lv_at hl 5 rfl) ?_
        refine lv_iload_n hx hb dX1_ownersBehind_30 rfl (lv_at hl 3 rfl) ?_
        refine lv_iload hx hb dX1_ownersBehind_31 (lv_at hl 4 rfl) ?_
        refine q_vi (As := [.int (nI (q_it (q_rd T n ss t) k S)), .int (bI t), .int ss]) (rest := []) ⟨hx, hb, hml, hown, hts⟩ (c_X3_nextOwners l (D := D) (cI := cI) (cB := cB) (cZ := cZ) (hm := hm) (hp := hp) (hh := hh) (ht := ht) (n := n) (fo := fo) (ss := ss) (tr := tr) (hom := hom) (T := T) (S := q_it (q_rd T n ss t) k S) (t := t) (se := ss) (by first | assumption | exact Nat.zero_le _ | omega) (by first | assumption | exact Nat.zero_le _ | omega) (by first | assumption | exact Nat.zero_le _ | omega) (q_it_lt (f := q_rd T n ss t) (fun x hx => q_rd_lt hx) hS _)) (cwV 3 hts gX1_ownersBehind_X3_nextOwners rfl rfl rfl (by decide +kernel) ⟨Nat.le_of_ble_eq_true rfl, Nat.le_of_ble_eq_true rfl⟩) hK hP [1, 2, 3, 4] rfl 1 3 rfl rfl rfl rfl hl.1 rfl (Nat.le_of_ble_eq_true rfl) dX1_ownersBehind_33 ⟨Nat.zero_le _, Nat.zero_le _⟩ (fun r_33 hr_33 => ?_)
        have hr_33 : nI (q_rd T n ss t (q_it (q_rd T n ss t) k S)) = r_33 := (show r_33 = nI (q_rd T n ss t (q_it (q_rd T n ss t) k S)) from hr_33).symm
        subst hr_33
        refine lv_istore (lv' := [(5, .int (nI (q_rd T n ss t (q_it (q_rd T n ss t) k S)))), (0, .ref hc), (1, .int (nI S)), (2, .int (nI q)), (3, .int (bI t)), (4, .int ss), (6, .int (nI k))]) hx hb dX1_ownersBehind_36 hl (by decide) rfl (fun ls hl => ?_)
        refine lv_iinc (v := nI (k + 1)) (lv' := [(6, .int (nI (k + 1))), (5, .int (nI (q_rd T n ss t (q_it (q_rd T n ss t) k S)))), (0, .ref hc), (1, .int (nI S)), (2, .int (nI q)), (3, .int (bI t)), (4, .int ss)]) hx hb dX1_ownersBehind_38 hl (k := 6) rfl (nI_add _ 1) (by decide) rfl (fun ls hl => ?_)
        refine lv_goto (tgt := 18) hx hb dX1_ownersBehind_41 (by decide) ?_
        exact ih18 (k + 1) (by first | assumption | exact Nat.zero_le _ | omega) (by omega) ls (lv_sub hl [2, 3, 4, 5, 6, 1, 0] rfl)
  refine lv_aload_n hx hb dX1_ownersBehind_0 rfl (lv_at hl 0 rfl) ?_
  refine q_get (ci := 1) (CC := RX1) (T := TX1) (N := 2) (v := .ref hm) hx hb hts hin1 hown hK hP 0 rfl rfl 0 (by decide) (hts (.fieldLink RX1 15 "DearAsMany$Course" "market" "LDearAsMany$Market;") (by decide +kernel)) rfl rfl dX1_ownersBehind_1 ?_
  refine q_get (ci := 3) (CC := RX3) (T := TX3) (N := 2) (v := .ref hp) hx hb hts hin3 hown hK hP 1 rfl rfl 0 (by decide) (hts (.fieldLink RX1 19 "DearAsMany$Market" "people" "LDearAsMany$People;") (by decide +kernel)) rfl rfl dX1_ownersBehind_4 ?_
  refine q_get (ci := 4) (CC := RX4) (T := TX4) (N := 4) (v := .int ss) hx hb hts hin4 hown hK hP 2 rfl rfl 3 (by decide) (hts (.fieldLink RX1 25 "DearAsMany$People" "season" "I") (by decide +kernel)) rfl rfl dX1_ownersBehind_7 ?_
  refine lv_istore (lv' := [(4, .int ss), (0, .ref hc), (1, .int (nI S)), (2, .int (nI q)), (3, .int (bI t))]) hx hb dX1_ownersBehind_10 hl (by decide) rfl (fun ls hl => ?_)
  refine lv_iload_n hx hb dX1_ownersBehind_12 rfl (lv_at hl 2 rfl) ?_
  refine lv_istore (lv' := [(5, .int (nI S)), (4, .int ss), (0, .ref hc), (1, .int (nI S)), (2, .int (nI q)), (3, .int (bI t))]) hx hb dX1_ownersBehind_13 hl (by decide) rfl (fun ls hl => ?_)
  refine lv_iconst (v := nI 0) hx hb dX1_ownersBehind_15 (by decide) ?_
  refine lv_istore (lv' := [(6, .int (nI 0)), (5, .int (nI S)), (4, .int ss), (0, .ref hc), (1, .int (nI S)), (2, .int (nI q)), (3, .int (bI t))]) hx hb dX1_ownersBehind_16 hl (by decide) rfl (fun ls hl => ?_)
  exact L18 _ 0 (by first | assumption | exact Nat.zero_le _ | omega) (Nat.lt_succ_self _) ls (lv_sub hl [3, 4, 5, 6, 2, 1, 0] rfl)

set_option maxHeartbeats 4000000 in
set_option maxRecDepth 100000 in
theorem c_X1_roundsToRest (l : Launch) {D : va_G} {cI cB cZ : ClassId} {hc : Nat} {ho : Nat} {hm : Nat} {hp : Nat} {hh : Nat} {ht : Nat} {n : Nat} {fo : Int32} {ss : Int32} {tr : Nat → Int32} {hom : Nat → Int32} {T : Nat → Nat → Nat} {S : Nat} {t : Bool} (hT : q_Tr T n tr) (hB : q_Bd T n) (hH : q_Hm T n hom) (hS : S < 2 ^ n) : Met l yX1_roundsToRest wsX1_roundsToRest ({ frames := 4, cells := 0, slots := 0, locals := 97 } : Room) (va_Pc [.ref hc, .int (nI S), .int (bI t)] (q_B D (q_tys cI cB cZ) [(hc, .inr (1, [.ref hm, .ref ho])), (hm, .inr (3, [.ref hp, .ref hh])), (hp, .inr (4, [.ref ht, .int (nI n), .int fo, .int ss])), (ht, .inl (cI, 35, .inl tr)), (hh, .inl (cI, 128, .inl hom))])) (vp_Si (fun r => r = q_rr (q_rd T n ss t) 128 0 S)) 0 0 (fun _ => False) := by
  refine Met.ofW (cc := cX1_roundsToRest) (maxL := 7) (ret := (some .int)) (by decide) rfl ?_
  intro p e s m args below meth c s₁ B hml hv
  obtain ⟨rfl, hP, hK⟩ := hv
  have hx := B.exec
  have hb := B.bytes
  have hr := B.returns
  have hts := atoms_spec (ws := wsX1_roundsToRest) B.pre
  have hown : s.vm.findClass RX1 = some m.cls := findClass_of_methodNamed B.named
  have hlocks := B.notSynchronized
  have hin1 : ∀ w ∈ u_ws RX1 TX1 2, w ∈ wsX1_roundsToRest := by decide +kernel
  have hin3 : ∀ w ∈ u_ws RX3 TX3 2, w ∈ wsX1_roundsToRest := by decide +kernel
  have hin4 : ∀ w ∈ u_ws RX4 TX4 4, w ∈ wsX1_roundsToRest := by decide +kernel
  have hP : va_P D vwCl [(hc, .inr (1, [.ref hm, .ref ho])), (hm, .inr (3, [.ref hp, .ref hh])), (hp, .inr (4, [.ref ht, .int (nI n), .int fo, .int ss])), (ht, .inl (cI, 35, .inl tr)), (hh, .inl (cI, 128, .inl hom))] s.heap := hP
  have hl := lv_entry ([.ref hc, .int (nI S), .int (bI t)]) (n := 7) (Nat.le_of_ble_eq_true rfl)
  rw [lg_entry_eq]
  generalize (lg_sl ([.ref hc, .int (nI S), .int (bI t)]) ++ List.replicate (7 - (lg_sl ([.ref hc, .int (nI S), .int (bI t)])).length) Slot.unset).toArray = ls at hl ⊢
  have hl : lv_has ls 7 [(0, .ref hc), (1, .int (nI S)), (2, .int (bI t))] := hl
  have hn7 := hB.1
  have hp2 : 2 ^ n ≤ 128 := q_p2 hB.1
  have L17 : ∀ (fuel : Nat) (j : Nat) (x : Nat) (r : Nat) (hj : j + r = 128) (hxx : x < 2 ^ n) (hE : q_rr (q_rd T n ss t) 128 0 S = q_rr (q_rd T n ss t) j r x) (hf : j < fuel) (ls : Array Slot) (hl : lv_has ls 7 [(0, .ref hc), (1, .int (nI S)), (2, .int (bI t)), (3, .int ss), (4, .int (nI x)), (5, .int (nI r))]), W p l e (headSpec wsX1_roundsToRest ({ frames := 4, cells := 0, slots := 0, locals := 97 } : Room)).room s m ([.ref hc, .int (nI S), .int (bI t)] : List Value).toArray below meth c s.heap [] 0 0 (MQ below (vp_Si (fun r => r = q_rr (q_rd T n ss t) 128 0 S)) ([.ref hc, .int (nI S), .int (bI t)] : List Value).toArray s 0 0 (fun _ => False)) (F0 m 17 ls []) := by
    intro fuel
    induction fuel with
    | zero =>
      intro j x r hj hxx hE hf ls hl
      exact absurd hf (Nat.not_lt_zero _)
    | succ fuel ih17 =>
      intro j x r hj hxx hE hf ls hl
      refine lv_iload hx hb dX1_roundsToRest_17 (lv_at hl 5 rfl) ?_
      refine lv_sipush (v := nI 128) hx hb dX1_roundsToRest_19 (by decide) ?_
      refine q_nge (tgt := 58) hx hb dX1_roundsToRest_22 (by decide) (by omega) (by omega) (fun c_22 => ?_) (fun c_22 => ?_)
      · refine lv_bipush (v := (-4 : Int32)) hx hb dX1_roundsToRest_58 (by decide) ?_
        exact q_zret (v := (-4 : Int32)) hx hb hr hlocks (rfl) (show (-4 : Int32) = q_rr (q_rd T n ss t) 128 0 S from by rw [hE, show j = 0 from by omega]; rfl) dX1_roundsToRest_60
      · obtain ⟨jj, rfl⟩ : ∃ jj, j = jj + 1 := ⟨j - 1, by omega⟩
        refine lv_aload_n hx hb dX1_roundsToRest_25 rfl (lv_at hl 0 rfl) ?_
        refine q_get (ci := 1) (CC := RX1) (T := TX1) (N := 2) (v := .ref hm) hx hb hts hin1 hown hK hP 0 rfl rfl 0 (by decide) (hts (.fieldLink RX1 15 "DearAsMany$Course" "market" "LDearAsMany$Market;") (by decide +kernel)) rfl rfl dX1_roundsToRest_26 ?_
        refine lv_iload hx hb dX1_roundsToRest_29 (lv_at hl 4 rfl) ?_
        refine lv_iload_n hx hb dX1_roundsToRest_31 rfl (lv_at hl 2 rfl) ?_
        refine lv_iload_n hx hb dX1_roundsToRest_32 rfl (lv_at hl 3 rfl) ?_
        refine q_vi (As := [.int (nI x), .int (bI t), .int ss]) (rest := []) ⟨hx, hb, hml, hown, hts⟩ (c_X3_nextOwners l (D := D) (cI := cI) (cB := cB) (cZ := cZ) (hm := hm) (hp := hp) (hh := hh) (ht := ht) (n := n) (fo := fo) (ss := ss) (tr := tr) (hom := hom) (T := T) (S := x) (t := t) (se := ss) (by first | assumption | exact Nat.zero_le _ | omega) (by first | assumption | exact Nat.zero_le _ | omega) (by first | assumption | exact Nat.zero_le _ | omega) (hxx)) (cwV 3 hts gX1_roundsToRest_X3_nextOwners rfl rfl rfl (by decide +kernel) ⟨Nat.le_of_ble_eq_true rfl, Nat.le_of_ble_eq_true rfl⟩) hK hP [1, 2, 3, 4] rfl 1 3 rfl rfl rfl rfl hl.1 rfl (Nat.le_of_ble_eq_true rfl) dX1_roundsToRest_33 ⟨Nat.zero_le _, Nat.zero_le _⟩ (fun r_33 hr_33 => ?_)
        have hr_33 : nI (q_rd T n ss t x) = r_33 := (show r_33 = nI (q_rd T n ss t x) from hr_33).symm
        subst hr_33
        refine lv_istore (lv' := [(6, .int (nI (q_rd T n ss t x))), (0, .ref hc), (1, .int (nI S)), (2, .int (bI t)), (3, .int ss), (4, .int (nI x)), (5, .int (nI r))]) hx hb dX1_roundsToRest_36 hl (by decide) rfl (fun ls hl => ?_)
        refine lv_iload hx hb dX1_roundsToRest_38 (lv_at hl 0 rfl) ?_
        refine lv_iload hx hb dX1_roundsToRest_40 (lv_at hl 5 rfl) ?_
        refine q_nne (tgt := 48) hx hb dX1_roundsToRest_42 (by decide) (by have := q_rd_lt (T := T) (se := ss) (t := t) hxx; omega) (by omega) (fun c_42 => ?_) (fun c_42 => ?_)
        · refine lv_iload hx hb dX1_roundsToRest_48 (lv_at hl 0 rfl) ?_
          refine lv_istore (lv' := [(4, .int (nI (q_rd T n ss t x))), (6, .int (nI (q_rd T n ss t x))), (0, .ref hc), (1, .int (nI S)), (2, .int (bI t)), (3, .int ss), (5, .int (nI r))]) hx hb dX1_roundsToRest_50 hl (by decide) rfl (fun ls hl => ?_)
          refine lv_iinc (v := nI (r + 1)) (lv' := [(5, .int (nI (r + 1))), (4, .int (nI (q_rd T n ss t x))), (6, .int (nI (q_rd T n ss t x))), (0, .ref hc), (1, .int (nI S)), (2, .int (bI t)), (3, .int ss)]) hx hb dX1_roundsToRest_52 hl (k := 6) rfl (nI_add _ 1) (by decide) rfl (fun ls hl => ?_)
          refine lv_goto (tgt := 17) hx hb dX1_roundsToRest_55 (by decide) ?_
          exact ih17 jj (q_rd T n ss t x) (r + 1) (by omega) (q_rd_lt hxx) (by rw [hE, q_rr, if_neg c_42]) (by omega) ls (lv_sub hl [3, 4, 5, 6, 1, 0] rfl)
        · refine lv_iload hx hb dX1_roundsToRest_45 (lv_at hl 6 rfl) ?_
          exact q_zret (v := nI r) hx hb hr hlocks (rfl) (show nI r = q_rr (q_rd T n ss t) 128 0 S from by rw [hE, q_rr, if_pos c_42]) dX1_roundsToRest_47
  refine lv_aload_n hx hb dX1_roundsToRest_0 rfl (lv_at hl 0 rfl) ?_
  refine q_get (ci := 1) (CC := RX1) (T := TX1) (N := 2) (v := .ref hm) hx hb hts hin1 hown hK hP 0 rfl rfl 0 (by decide) (hts (.fieldLink RX1 15 "DearAsMany$Course" "market" "LDearAsMany$Market;") (by decide +kernel)) rfl rfl dX1_roundsToRest_1 ?_
  refine q_get (ci := 3) (CC := RX3) (T := TX3) (N := 2) (v := .ref hp) hx hb hts hin3 hown hK hP 1 rfl rfl 0 (by decide) (hts (.fieldLink RX1 19 "DearAsMany$Market" "people" "LDearAsMany$People;") (by decide +kernel)) rfl rfl dX1_roundsToRest_4 ?_
  refine q_get (ci := 4) (CC := RX4) (T := TX4) (N := 4) (v := .int ss) hx hb hts hin4 hown hK hP 2 rfl rfl 3 (by decide) (hts (.fieldLink RX1 25 "DearAsMany$People" "season" "I") (by decide +kernel)) rfl rfl dX1_roundsToRest_7 ?_
  refine lv_istore_n (lv' := [(3, .int ss), (0, .ref hc), (1, .int (nI S)), (2, .int (bI t))]) hx hb dX1_roundsToRest_10 rfl hl (by decide) rfl (fun ls hl => ?_)
  refine lv_iload_n hx hb dX1_roundsToRest_11 rfl (lv_at hl 2 rfl) ?_
  refine lv_istore (lv' := [(4, .int (nI S)), (3, .int ss), (0, .ref hc), (1, .int (nI S)), (2, .int (bI t))]) hx hb dX1_roundsToRest_12 hl (by decide) rfl (fun ls hl => ?_)
  refine lv_iconst (v := nI 0) hx hb dX1_roundsToRest_14 (by decide) ?_
  refine lv_istore (lv' := [(5, .int (nI 0)), (4, .int (nI S)), (3, .int ss), (0, .ref hc), (1, .int (nI S)), (2, .int (bI t))]) hx hb dX1_roundsToRest_15 hl (by decide) rfl (fun ls hl => ?_)
  exact L17 _ 128 S 0 (rfl) (hS) (rfl) (Nat.lt_succ_self _) ls (lv_sub hl [3, 4, 5, 2, 1, 0] rfl)

set_option maxHeartbeats 4000000 in
set_option maxRecDepth 100000 in
theorem c_X1_roundsOfSwing (l : Launch) {D : va_G} {cI cB cZ : ClassId} {hc : Nat} {ho : Nat} {hm : Nat} {hp : Nat} {hh : Nat} {ht : Nat} {n : Nat} {fo : Int32} {ss : Int32} {tr : Nat → Int32} {hom : Nat → Int32} {T : Nat → Nat → Nat} {S : Nat} {t : Bool} (hT : q_Tr T n tr) (hB : q_Bd T n) (hH : q_Hm T n hom) (hS : S < 2 ^ n) : Met l yX1_roundsOfSwing wsX1_roundsOfSwing ({ frames := 5, cells := 0, slots := 0, locals := 123 } : Room) (va_Pc [.ref hc, .int (nI S), .int (bI t)] (q_B D (q_tys cI cB cZ) [(hc, .inr (1, [.ref hm, .ref ho])), (hm, .inr (3, [.ref hp, .ref hh])), (hp, .inr (4, [.ref ht, .int (nI n), .int fo, .int ss])), (ht, .inl (cI, 35, .inl tr)), (hh, .inl (cI, 128, .inl hom))])) (vp_Si (fun r => r = nI (q_sg (q_rd T n ss t) S))) 0 0 (fun _ => False) := by
  refine Met.ofW (cc := cX1_roundsOfSwing) (maxL := 7) (ret := (some .int)) (by decide) rfl ?_
  intro p e s m args below meth c s₁ B hml hv
  obtain ⟨rfl, hP, hK⟩ := hv
  have hx := B.exec
  have hb := B.bytes
  have hr := B.returns
  have hts := atoms_spec (ws := wsX1_roundsOfSwing) B.pre
  have hown : s.vm.findClass RX1 = some m.cls := findClass_of_methodNamed B.named
  have hlocks := B.notSynchronized
  have hin1 : ∀ w ∈ u_ws RX1 TX1 2, w ∈ wsX1_roundsOfSwing := by decide +kernel
  have hin3 : ∀ w ∈ u_ws RX3 TX3 2, w ∈ wsX1_roundsOfSwing := by decide +kernel
  have hin4 : ∀ w ∈ u_ws RX4 TX4 4, w ∈ wsX1_roundsOfSwing := by decide +kernel
  have hP : va_P D vwCl [(hc, .inr (1, [.ref hm, .ref ho])), (hm, .inr (3, [.ref hp, .ref hh])), (hp, .inr (4, [.ref ht, .int (nI n), .int fo, .int ss])), (ht, .inl (cI, 35, .inl tr)), (hh, .inl (cI, 128, .inl hom))] s.heap := hP
  have hl := lv_entry ([.ref hc, .int (nI S), .int (bI t)]) (n := 7) (Nat.le_of_ble_eq_true rfl)
  rw [lg_entry_eq]
  generalize (lg_sl ([.ref hc, .int (nI S), .int (bI t)]) ++ List.replicate (7 - (lg_sl ([.ref hc, .int (nI S), .int (bI t)])).length) Slot.unset).toArray = ls at hl ⊢
  have hl : lv_has ls 7 [(0, .ref hc), (1, .int (nI S)), (2, .int (bI t))] := hl
  have hn7 := hB.1
  have hp2 : 2 ^ n ≤ 128 := q_p2 hB.1
  have hx0 := q_it_lt (f := q_rd T n ss t) (fun x hx => q_rd_lt hx) hS 128
  have L38 : ∀ (fuel : Nat) (j : Nat) (y : Nat) (cn : Nat) (hj : j + cn = 128) (hy : y < 2 ^ n) (hE : q_sg (q_rd T n ss t) S = q_sw (q_rd T n ss t) (q_it (q_rd T n ss t) 128 S) j y cn) (hf : j < fuel) (ls : Array Slot) (hl : lv_has ls 7 [(0, .ref hc), (1, .int (nI S)), (2, .int (bI t)), (3, .int ss), (4, .int (nI (q_it (q_rd T n ss t) 128 S))), (5, .int (nI y)), (6, .int (nI cn))]), W p l e (headSpec wsX1_roundsOfSwing ({ frames := 5, cells := 0, slots := 0, locals := 123 } : Room)).room s m ([.ref hc, .int (nI S), .int (bI t)] : List Value).toArray below meth c s.heap [] 0 0 (MQ below (vp_Si (fun r => r = nI (q_sg (q_rd T n ss t) S))) ([.ref hc, .int (nI S), .int (bI t)] : List Value).toArray s 0 0 (fun _ => False)) (F0 m 38 ls []) := by
    intro fuel
    induction fuel with
    | zero =>
      intro j y cn hj hy hE hf ls hl
      exact absurd hf (Nat.not_lt_zero _)
    | succ fuel ih38 =>
      intro j y cn hj hy hE hf ls hl
      refine lv_iload hx hb dX1_roundsOfSwing_38 (lv_at hl 5 rfl) ?_
      refine lv_iload hx hb dX1_roundsOfSwing_40 (lv_at hl 4 rfl) ?_
      refine q_neq (tgt := 72) hx hb dX1_roundsOfSwing_42 (by decide) (by omega) (by omega) (fun c_42 => ?_) (fun c_42 => ?_)
      · refine lv_iload hx hb dX1_roundsOfSwing_72 (lv_at hl 6 rfl) ?_
        exact q_zret (v := nI cn) hx hb hr hlocks (rfl) (show nI cn = nI (q_sg (q_rd T n ss t) S) from by rw [hE, c_42]; exact (congrArg nI (q_sw_eq _ _ _ _)).symm) dX1_roundsOfSwing_74
      · refine lv_iload hx hb dX1_roundsOfSwing_45 (lv_at hl 6 rfl) ?_
        refine lv_sipush (v := nI 128) hx hb dX1_roundsOfSwing_47 (by decide) ?_
        refine q_nge (tgt := 72) hx hb dX1_roundsOfSwing_50 (by decide) (by omega) (by omega) (fun c_50 => ?_) (fun c_50 => ?_)
        · refine lv_iload hx hb dX1_roundsOfSwing_72 (lv_at hl 6 rfl) ?_
          exact q_zret (v := nI cn) hx hb hr hlocks (rfl) (show nI cn = nI (q_sg (q_rd T n ss t) S) from by rw [hE, show j = 0 from by omega]; rfl) dX1_roundsOfSwing_74
        · obtain ⟨jj, rfl⟩ : ∃ jj, j = jj + 1 := ⟨j - 1, by omega⟩
          refine lv_aload_n hx hb dX1_roundsOfSwing_53 rfl (lv_at hl 0 rfl) ?_
          refine q_get (ci := 1) (CC := RX1) (T := TX1) (N := 2) (v := .ref hm) hx hb hts hin1 hown hK hP 0 rfl rfl 0 (by decide) (hts (.fieldLink RX1 15 "DearAsMany$Course" "market" "LDearAsMany$Market;") (by decide +kernel)) rfl rfl dX1_roundsOfSwing_54 ?_
          refine lv_iload hx hb dX1_roundsOfSwing_57 (lv_at hl 5 rfl) ?_
          refine lv_iload_n hx hb dX1_roundsOfSwing_59 rfl (lv_at hl 2 rfl) ?_
          refine lv_iload_n hx hb dX1_roundsOfSwing_60 rfl (lv_at hl 3 rfl) ?_
          refine q_vi (As := [.int (nI y), .int (bI t), .int ss]) (rest := []) ⟨hx, hb, hml, hown, hts⟩ (c_X3_nextOwners l (D := D) (cI := cI) (cB := cB) (cZ := cZ) (hm := hm) (hp := hp) (hh := hh) (ht := ht) (n := n) (fo := fo) (ss := ss) (tr := tr) (hom := hom) (T := T) (S := y) (t := t) (se := ss) (by first | assumption | exact Nat.zero_le _ | omega) (by first | assumption | exact Nat.zero_le _ | omega) (by first | assumption | exact Nat.zero_le _ | omega) (hy)) (cwV 3 hts gX1_roundsOfSwing_X3_nextOwners rfl rfl rfl (by decide +kernel) ⟨Nat.le_of_ble_eq_true rfl, Nat.le_of_ble_eq_true rfl⟩) hK hP [1, 2, 3, 4] rfl 1 3 rfl rfl rfl rfl hl.1 rfl (Nat.le_of_ble_eq_true rfl) dX1_roundsOfSwing_61 ⟨Nat.zero_le _, Nat.zero_le _⟩ (fun r_61 hr_61 => ?_)
          have hr_61 : nI (q_rd T n ss t y) = r_61 := (show r_61 = nI (q_rd T n ss t y) from hr_61).symm
          subst hr_61
          refine lv_istore (lv' := [(5, .int (nI (q_rd T n ss t y))), (0, .ref hc), (1, .int (nI S)), (2, .int (bI t)), (3, .int ss), (4, .int (nI (q_it (q_rd T n ss t) 128 S))), (6, .int (nI cn))]) hx hb dX1_roundsOfSwing_64 hl (by decide) rfl (fun ls hl => ?_)
          refine lv_iinc (v := nI (cn + 1)) (lv' := [(6, .int (nI (cn + 1))), (5, .int (nI (q_rd T n ss t y))), (0, .ref hc), (1, .int (nI S)), (2, .int (bI t)), (3, .int ss), (4, .int (nI (q_it (q_rd T n ss t) 128 S)))]) hx hb dX1_roundsOfSwing_66 hl (k := 6) rfl (nI_add _ 1) (by decide) rfl (fun ls hl => ?_)
          refine lv_goto (tgt := 38) hx hb dX1_roundsOfSwing_69 (by decide) ?_
          exact ih38 jj (q_rd T n ss t y) (cn + 1) (by omega) (q_rd_lt hy) (by rw [hE, q_sw, if_neg c_42]) (by omega) ls (lv_sub hl [2, 3, 4, 5, 6, 1, 0] rfl)
  refine lv_aload_n hx hb dX1_roundsOfSwing_0 rfl (lv_at hl 0 rfl) ?_
  refine q_get (ci := 1) (CC := RX1) (T := TX1) (N := 2) (v := .ref hm) hx hb hts hin1 hown hK hP 0 rfl rfl 0 (by decide) (hts (.fieldLink RX1 15 "DearAsMany$Course" "market" "LDearAsMany$Market;") (by decide +kernel)) rfl rfl dX1_roundsOfSwing_1 ?_
  refine q_get (ci := 3) (CC := RX3) (T := TX3) (N := 2) (v := .ref hp) hx hb hts hin3 hown hK hP 1 rfl rfl 0 (by decide) (hts (.fieldLink RX1 19 "DearAsMany$Market" "people" "LDearAsMany$People;") (by decide +kernel)) rfl rfl dX1_roundsOfSwing_4 ?_
  refine q_get (ci := 4) (CC := RX4) (T := TX4) (N := 4) (v := .int ss) hx hb hts hin4 hown hK hP 2 rfl rfl 3 (by decide) (hts (.fieldLink RX1 25 "DearAsMany$People" "season" "I") (by decide +kernel)) rfl rfl dX1_roundsOfSwing_7 ?_
  refine lv_istore_n (lv' := [(3, .int ss), (0, .ref hc), (1, .int (nI S)), (2, .int (bI t))]) hx hb dX1_roundsOfSwing_10 rfl hl (by decide) rfl (fun ls hl => ?_)
  refine lv_aload_n hx hb dX1_roundsOfSwing_11 rfl (lv_at hl 1 rfl) ?_
  refine lv_iload_n hx hb dX1_roundsOfSwing_12 rfl (lv_at hl 2 rfl) ?_
  refine lv_sipush (v := nI 128) hx hb dX1_roundsOfSwing_13 (by decide) ?_
  refine lv_iload_n hx hb dX1_roundsOfSwing_16 rfl (lv_at hl 3 rfl) ?_
  refine q_vi (As := [.int (nI S), .int (nI 128), .int (bI t)]) (rest := []) ⟨hx, hb, hml, hown, hts⟩ (c_X1_ownersBehind l (D := D) (cI := cI) (cB := cB) (cZ := cZ) (hc := hc) (ho := ho) (hm := hm) (hp := hp) (hh := hh) (ht := ht) (n := n) (fo := fo) (ss := ss) (tr := tr) (hom := hom) (T := T) (S := S) (q := 128) (t := t) (by first | assumption | exact Nat.zero_le _ | omega) (by first | assumption | exact Nat.zero_le _ | omega) (by first | assumption | exact Nat.zero_le _ | omega) (by first | assumption | exact Nat.zero_le _ | omega) (by decide)) (cwV 3 hts gX1_roundsOfSwing_X1_ownersBehind rfl rfl rfl (by decide +kernel) ⟨Nat.le_of_ble_eq_true rfl, Nat.le_of_ble_eq_true rfl⟩) hK hP [0, 1, 2, 3, 4] rfl 0 1 rfl rfl rfl rfl hl.1 rfl (Nat.le_of_ble_eq_true rfl) dX1_roundsOfSwing_17 ⟨Nat.zero_le _, Nat.zero_le _⟩ (fun r_17 hr_17 => ?_)
  have hr_17 : nI (q_it (q_rd T n ss t) 128 S) = r_17 := (show r_17 = nI (q_it (q_rd T n ss t) 128 S) from hr_17).symm
  subst hr_17
  refine lv_istore (lv' := [(4, .int (nI (q_it (q_rd T n ss t) 128 S))), (3, .int ss), (0, .ref hc), (1, .int (nI S)), (2, .int (bI t))]) hx hb dX1_roundsOfSwing_20 hl (by decide) rfl (fun ls hl => ?_)
  refine lv_aload_n hx hb dX1_roundsOfSwing_22 rfl (lv_at hl 2 rfl) ?_
  refine q_get (ci := 1) (CC := RX1) (T := TX1) (N := 2) (v := .ref hm) hx hb hts hin1 hown hK hP 0 rfl rfl 0 (by decide) (hts (.fieldLink RX1 15 "DearAsMany$Course" "market" "LDearAsMany$Market;") (by decide +kernel)) rfl rfl dX1_roundsOfSwing_23 ?_
  refine lv_iload hx hb dX1_roundsOfSwing_26 (lv_at hl 0 rfl) ?_
  refine lv_iload_n hx hb dX1_roundsOfSwing_28 rfl (lv_at hl 4 rfl) ?_
  refine lv_iload_n hx hb dX1_roundsOfSwing_29 rfl (lv_at hl 1 rfl) ?_
  refine q_vi (As := [.int (nI (q_it (q_rd T n ss t) 128 S)), .int (bI t), .int ss]) (rest := []) ⟨hx, hb, hml, hown, hts⟩ (c_X3_nextOwners l (D := D) (cI := cI) (cB := cB) (cZ := cZ) (hm := hm) (hp := hp) (hh := hh) (ht := ht) (n := n) (fo := fo) (ss := ss) (tr := tr) (hom := hom) (T := T) (S := q_it (q_rd T n ss t) 128 S) (t := t) (se := ss) (by first | assumption | exact Nat.zero_le _ | omega) (by first | assumption | exact Nat.zero_le _ | omega) (by first | assumption | exact Nat.zero_le _ | omega) (q_it_lt (f := q_rd T n ss t) (fun x hx => q_rd_lt hx) hS _)) (cwV 3 hts gX1_roundsOfSwing_X3_nextOwners rfl rfl rfl (by decide +kernel) ⟨Nat.le_of_ble_eq_true rfl, Nat.le_of_ble_eq_true rfl⟩) hK hP [1, 2, 3, 4] rfl 1 3 rfl rfl rfl rfl hl.1 rfl (Nat.le_of_ble_eq_true rfl) dX1_roundsOfSwing_30 ⟨Nat.zero_le _, Nat.zero_le _⟩ (fun r_30 hr_30 => ?_)
  have hr_30 : nI (q_rd T n ss t (q_it (q_rd T n ss t) 128 S)) = r_30 := (show r_30 = nI (q_rd T n ss t (q_it (q_rd T n ss t) 128 S)) from hr_30).symm
  subst hr_30
  refine lv_istore (lv' := [(5, .int (nI (q_rd T n ss t (q_it (q_rd T n ss t) 128 S)))), (4, .int (nI (q_it (q_rd T n ss t) 128 S))), (3, .int ss), (0, .ref hc), (1, .int (nI S)), (2, .int (bI t))]) hx hb dX1_roundsOfSwing_33 hl (by decide) rfl (fun ls hl => ?_)
  refine lv_iconst (v := nI 1) hx hb dX1_roundsOfSwing_35 (by decide) ?_
  refine lv_istore (lv' := [(6, .int (nI 1)), (5, .int (nI (q_rd T n ss t (q_it (q_rd T n ss t) 128 S)))), (4, .int (nI (q_it (q_rd T n ss t) 128 S))), (3, .int ss), (0, .ref hc), (1, .int (nI S)), (2, .int (bI t))]) hx hb dX1_roundsOfSwing_36 hl (by decide) rfl (fun ls hl => ?_)
  exact L38 _ 127 (q_rd T n ss t (q_it (q_rd T n ss t) 128 S)) 1 (rfl) (q_rd_lt (q_it_lt (f := q_rd T n ss t) (fun x hx => q_rd_lt hx) hS _)) (rfl) (Nat.lt_succ_self _) ls (lv_sub hl [4, 5, 6, 3, 2, 1, 0] rfl)

set_option maxHeartbeats 4000000 in
set_option maxRecDepth 100000 in
theorem c_X1_restsWith (l : Launch) {D : va_G} {cI cB cZ : ClassId} {hc : Nat} {ho : Nat} {hm : Nat} {hp : Nat} {hh : Nat} {ht : Nat} {n : Nat} {fo : Int32} {ss : Int32} {tr : Nat → Int32} {hom : Nat → Int32} {T : Nat → Nat → Nat} {S : Nat} (hT : q_Tr T n tr) (hB : q_Bd T n) (hH : q_Hm T n hom) (hS : S < 2 ^ n) : Met l yX1_restsWith wsX1_restsWith ({ frames := 4, cells := 0, slots := 0, locals := 96 } : Room) (va_Pc [.ref hc, .int (nI S)] (q_B D (q_tys cI cB cZ) [(hc, .inr (1, [.ref hm, .ref ho])), (hm, .inr (3, [.ref hp, .ref hh])), (hp, .inr (4, [.ref ht, .int (nI n), .int fo, .int ss])), (ht, .inl (cI, 35, .inl tr)), (hh, .inl (cI, 128, .inl hom))])) (vp_Si (fun r => r = bI (q_rs T n ss S))) 0 0 (fun _ => False) := by
  refine Met.ofW (cc := cX1_restsWith) (maxL := 2) (ret := (some .boolean)) (by decide) rfl ?_
  intro p e s m args below meth c s₁ B hml hv
  obtain ⟨rfl, hP, hK⟩ := hv
  have hx := B.exec
  have hb := B.bytes
  have hr := B.returns
  have hts := atoms_spec (ws := wsX1_restsWith) B.pre
  have hown : s.vm.findClass RX1 = some m.cls := findClass_of_methodNamed B.named
  have hlocks := B.notSynchronized
  have hin1 : ∀ w ∈ u_ws RX1 TX1 2, w ∈ wsX1_restsWith := by decide +kernel
  have hin3 : ∀ w ∈ u_ws RX3 TX3 2, w ∈ wsX1_restsWith := by decide +kernel
  have hin4 : ∀ w ∈ u_ws RX4 TX4 4, w ∈ wsX1_restsWith := by decide +kernel
  have hP : va_P D vwCl [(hc, .inr (1, [.ref hm, .ref ho])), (hm, .inr (3, [.ref hp, .ref hh])), (hp, .inr (4, [.ref ht, .int (nI n), .int fo, .int ss])), (ht, .inl (cI, 35, .inl tr)), (hh, .inl (cI, 128, .inl hom))] s.heap := hP
  have hl := lv_entry ([.ref hc, .int (nI S)]) (n := 2) (Nat.le_of_ble_eq_true rfl)
  rw [lg_entry_eq]
  generalize (lg_sl ([.ref hc, .int (nI S)]) ++ List.replicate (2 - (lg_sl ([.ref hc, .int (nI S)])).length) Slot.unset).toArray = ls at hl ⊢
  have hl : lv_has ls 2 [(0, .ref hc), (1, .int (nI S))] := hl
  have hn7 := hB.1
  have hp2 : 2 ^ n ≤ 128 := q_p2 hB.1
  refine lv_aload_n hx hb dX1_restsWith_0 rfl (lv_at hl 0 rfl) ?_
  refine q_get (ci := 1) (CC := RX1) (T := TX1) (N := 2) (v := .ref hm) hx hb hts hin1 hown hK hP 0 rfl rfl 0 (by decide) (hts (.fieldLink RX1 15 "DearAsMany$Course" "market" "LDearAsMany$Market;") (by decide +kernel)) rfl rfl dX1_restsWith_1 ?_
  refine lv_iload_n hx hb dX1_restsWith_4 rfl (lv_at hl 1 rfl) ?_
  refine lv_aload_n hx hb dX1_restsWith_5 rfl (lv_at hl 0 rfl) ?_
  refine q_get (ci := 1) (CC := RX1) (T := TX1) (N := 2) (v := .ref hm) hx hb hts hin1 hown hK hP 0 rfl rfl 0 (by decide) (hts (.fieldLink RX1 15 "DearAsMany$Course" "market" "LDearAsMany$Market;") (by decide +kernel)) rfl rfl dX1_restsWith_6 ?_
  refine q_get (ci := 3) (CC := RX3) (T := TX3) (N := 2) (v := .ref hp) hx hb hts hin3 hown hK hP 1 rfl rfl 0 (by decide) (hts (.fieldLink RX1 19 "DearAsMany$Market" "people" "LDearAsMany$People;") (by decide +kernel)) rfl rfl dX1_restsWith_9 ?_
  refine q_get (ci := 4) (CC := RX4) (T := TX4) (N := 4) (v := .int ss) hx hb hts hin4 hown hK hP 2 rfl rfl 3 (by decide) (hts (.fieldLink RX1 25 "DearAsMany$People" "season" "I") (by decide +kernel)) rfl rfl dX1_restsWith_12 ?_
  refine q_vi (As := [.int (nI S), .int ss]) (rest := []) ⟨hx, hb, hml, hown, hts⟩ (c_X3_changersBy l (D := D) (cI := cI) (cB := cB) (cZ := cZ) (hm := hm) (hp := hp) (hh := hh) (ht := ht) (n := n) (fo := fo) (ss := ss) (tr := tr) (hom := hom) (T := T) (S := S) (se := ss) (by first | assumption | exact Nat.zero_le _ | omega) (by first | assumption | exact Nat.zero_le _ | omega) (by first | assumption | exact Nat.zero_le _ | omega) (by first | assumption | exact Nat.zero_le _ | omega)) (cwV 2 hts gX1_restsWith_X3_changersBy rfl rfl rfl (by decide +kernel) ⟨Nat.le_of_ble_eq_true rfl, Nat.le_of_ble_eq_true rfl⟩) hK hP [1, 2, 3, 4] rfl 1 3 rfl rfl rfl rfl hl.1 rfl (Nat.le_of_ble_eq_true rfl) dX1_restsWith_15 ⟨Nat.zero_le _, Nat.zero_le _⟩ (fun r_15 hr_15 => ?_)
  have hr_15 : nI (q_cs T n ss S n) = r_15 := (show r_15 = nI (q_cs T n ss S n) from hr_15).symm
  subst hr_15
  refine q_zne (tgt := 25) hx hb dX1_restsWith_18 (by decide) (by have := q_cs_lt (T := T) (n := n) (se := ss) (S := S) (Nat.le_refl n); omega) (fun c_18 => ?_) (fun c_18 => ?_)
  · refine lv_iconst (v := nI 0) hx hb dX1_restsWith_25 (by decide) ?_
    exact q_zret (v := nI 0) hx hb hr hlocks (q_nar0) (show nI 0 = bI (q_rs T n ss S) from by rw [show q_rs T n ss S = false from decide_eq_false c_18]; rfl) dX1_restsWith_26
  · refine lv_iconst (v := nI 1) hx hb dX1_restsWith_21 (by decide) ?_
    refine lv_goto (tgt := 26) hx hb dX1_restsWith_22 (by decide) ?_
    exact q_zret (v := nI 1) hx hb hr hlocks (q_nar1) (show nI 1 = bI (q_rs T n ss S) from by rw [show q_rs T n ss S = true from decide_eq_true c_18]; rfl) dX1_restsWith_26

set_option maxHeartbeats 4000000 in
set_option maxRecDepth 100000 in
theorem c_X1_countRests (l : Launch) {D : va_G} {cI cB cZ : ClassId} {hc : Nat} {ho : Nat} {hm : Nat} {hp : Nat} {hh : Nat} {ht : Nat} {n : Nat} {fo : Int32} {ss : Int32} {tr : Nat → Int32} {hom : Nat → Int32} {T : Nat → Nat → Nat} (hT : q_Tr T n tr) (hB : q_Bd T n) (hH : q_Hm T n hom) : Met l yX1_countRests wsX1_countRests ({ frames := 5, cells := 0, slots := 0, locals := 117 } : Room) (va_Pc [.ref hc] (q_B D (q_tys cI cB cZ) [(hc, .inr (1, [.ref hm, .ref ho])), (hm, .inr (3, [.ref hp, .ref hh])), (hp, .inr (4, [.ref ht, .int (nI n), .int fo, .int ss])), (ht, .inl (cI, 35, .inl tr)), (hh, .inl (cI, 128, .inl hom))])) (vp_Si (fun r => r = nI (q_cr (q_rs T n ss) (2 ^ n)))) 0 0 (fun _ => False) := by
  refine Met.ofW (cc := cX1_countRests) (maxL := 3) (ret := (some .int)) (by decide) rfl ?_
  intro p e s m args below meth c s₁ B hml hv
  obtain ⟨rfl, hP, hK⟩ := hv
  have hx := B.exec
  have hb := B.bytes
  have hr := B.returns
  have hts := atoms_spec (ws := wsX1_countRests) B.pre
  have hown : s.vm.findClass RX1 = some m.cls := findClass_of_methodNamed B.named
  have hlocks := B.notSynchronized
  have hin1 : ∀ w ∈ u_ws RX1 TX1 2, w ∈ wsX1_countRests := by decide +kernel
  have hin3 : ∀ w ∈ u_ws RX3 TX3 2, w ∈ wsX1_countRests := by decide +kernel
  have hP : va_P D vwCl [(hc, .inr (1, [.ref hm, .ref ho])), (hm, .inr (3, [.ref hp, .ref hh])), (hp, .inr (4, [.ref ht, .int (nI n), .int fo, .int ss])), (ht, .inl (cI, 35, .inl tr)), (hh, .inl (cI, 128, .inl hom))] s.heap := hP
  have hl := lv_entry ([.ref hc]) (n := 3) (Nat.le_of_ble_eq_true rfl)
  rw [lg_entry_eq]
  generalize (lg_sl ([.ref hc]) ++ List.replicate (3 - (lg_sl ([.ref hc])).length) Slot.unset).toArray = ls at hl ⊢
  have hl : lv_has ls 3 [(0, .ref hc)] := hl
  have hn7 := hB.1
  have hp2 : 2 ^ n ≤ 128 := q_p2 hB.1
  have L4 : ∀ (fuel : Nat) (sv : Nat) (hs : sv ≤ 2 ^ n) (hf : 2 ^ n - sv < fuel) (ls : Array Slot) (hl : lv_has ls 3 [(0, .ref hc), (1, .int (nI (q_cr (q_rs T n ss) sv))), (2, .int (nI sv))]), W p l e (headSpec wsX1_countRests ({ frames := 5, cells := 0, slots := 0, locals := 117 } : Room)).room s m ([.ref hc] : List Value).toArray below meth c s.heap [] 0 0 (MQ below (vp_Si (fun r => r = nI (q_cr (q_rs T n ss) (2 ^ n)))) ([.ref hc] : List Value).toArray s 0 0 (fun _ => False)) (F0 m 4 ls []) := by
    intro fuel
    induction fuel with
    | zero =>
      intro sv hs hf ls hl
      exact absurd hf (Nat.not_lt_zero _)
    | succ fuel ih4 =>
      intro sv hs hf ls hl
      refine lv_iload_n hx hb dX1_countRests_4 rfl (lv_at hl 2 rfl) ?_
      refine lv_aload_n hx hb dX1_countRests_5 rfl (lv_at hl 0 rfl) ?_
      refine q_get (ci := 1) (CC := RX1) (T := TX1) (N := 2) (v := .ref hm) hx hb hts hin1 hown hK hP 0 rfl rfl 0 (by decide) (hts (.fieldLink RX1 15 "DearAsMany$Course" "market" "LDearAsMany$Market;") (by decide +kernel)) rfl rfl dX1_countRests_6 ?_
      refine q_get (ci := 3) (CC := RX3) (T := TX3) (N := 2) (v := .ref hp) hx hb hts hin3 hown hK hP 1 rfl rfl 0 (by decide) (hts (.fieldLink RX1 19 "DearAsMany$Market" "people" "LDearAsMany$People;") (by decide +kernel)) rfl rfl dX1_countRests_9 ?_
      refine q_vi (As := []) (rest := [.int (nI sv)]) ⟨hx, hb, hml, hown, hts⟩ (c_X4_sets l (D := D) (cI := cI) (cB := cB) (cZ := cZ) (hp := hp) (ht := ht) (n := n) (fo := fo) (ss := ss) (by first | assumption | exact Nat.zero_le _ | omega)) (cwV 0 hts gX1_countRests_X4_sets rfl rfl rfl (by decide +kernel) ⟨Nat.le_of_ble_eq_true rfl, Nat.le_of_ble_eq_true rfl⟩) hK hP [2] rfl 2 4 rfl rfl rfl rfl hl.1 rfl (Nat.le_of_ble_eq_true rfl) dX1_countRests_12 ⟨Nat.zero_le _, Nat.zero_le _⟩ (fun r_12 hr_12 => ?_)
      have hr_12 : nI (2 ^ n) = r_12 := (show r_12 = nI (2 ^ n) from hr_12).symm
      subst hr_12
      refine q_nge (tgt := 35) hx hb dX1_countRests_15 (by decide) (by omega) (by omega) (fun c_15 => ?_) (fun c_15 => ?_)
      · refine lv_iload_n hx hb dX1_countRests_35 rfl (lv_at hl 1 rfl) ?_
        exact q_zret (v := nI (q_cr (q_rs T n ss) sv)) hx hb hr hlocks (rfl) (show nI (q_cr (q_rs T n ss) sv) = nI (q_cr (q_rs T n ss) (2 ^ n)) from by rw [show sv = 2 ^ n from by omega]) dX1_countRests_36
      · refine lv_aload_n hx hb dX1_countRests_18 rfl (lv_at hl 0 rfl) ?_
        refine lv_iload_n hx hb dX1_countRests_19 rfl (lv_at hl 2 rfl) ?_
        refine q_vi (As := [.int (nI sv)]) (rest := []) ⟨hx, hb, hml, hown, hts⟩ (c_X1_restsWith l (D := D) (cI := cI) (cB := cB) (cZ := cZ) (hc := hc) (ho := ho) (hm := hm) (hp := hp) (hh := hh) (ht := ht) (n := n) (fo := fo) (ss := ss) (tr := tr) (hom := hom) (T := T) (S := sv) (by first | assumption | exact Nat.zero_le _ | omega) (by first | assumption | exact Nat.zero_le _ | omega) (by first | assumption | exact Nat.zero_le _ | omega) (by first | assumption | exact Nat.zero_le _ | omega)) (cwV 1 hts gX1_countRests_X1_restsWith rfl rfl rfl (by decide +kernel) ⟨Nat.le_of_ble_eq_true rfl, Nat.le_of_ble_eq_true rfl⟩) hK hP [0, 1, 2, 3, 4] rfl 0 1 rfl rfl rfl rfl hl.1 rfl (Nat.le_of_ble_eq_true rfl) dX1_countRests_20 ⟨Nat.zero_le _, Nat.zero_le _⟩ (fun r_20 hr_20 => ?_)
        have hr_20 : bI (q_rs T n ss sv) = r_20 := (show r_20 = bI (q_rs T n ss sv) from hr_20).symm
        subst hr_20
        refine q_beq (tgt := 29) hx hb dX1_countRests_23 (by decide) (fun c_23 => ?_) (fun c_23 => ?_)
        · refine lv_iinc (v := nI (sv + 1)) (lv' := [(2, .int (nI (sv + 1))), (0, .ref hc), (1, .int (nI (q_cr (q_rs T n ss) sv)))]) hx hb dX1_countRests_29 hl (k := 2) rfl (nI_add _ 1) (by decide) rfl (fun ls hl => ?_)
          refine lv_goto (tgt := 4) hx hb dX1_countRests_32 (by decide) ?_
          have hl : lv_has ls 3 [(2, .int (nI (sv + 1))), (0, .ref hc), (1, .int (nI (q_cr (q_rs T n ss) (sv + 1))))] := by rw [← show nI (q_cr (q_rs T n ss) sv) = nI (q_cr (q_rs T n ss) (sv + 1)) from by show nI _ = nI (if q_rs T n ss sv then _ else _); rw [if_neg (by rw [c_23]; decide)]]; exact hl
          exact ih4 (sv + 1) (by first | assumption | exact Nat.zero_le _ | omega) (by omega) ls (lv_sub hl [1, 2, 0] rfl)
        · refine lv_iinc (v := nI ((q_cr (q_rs T n ss) sv) + 1)) (lv' := [(1, .int (nI ((q_cr (q_rs T n ss) sv) + 1))), (0, .ref hc), (2, .int (nI sv))]) hx hb dX1_countRests_26 hl (k := 1) rfl (nI_add _ 1) (by decide) rfl (fun ls hl => ?_)
          refine lv_iinc (v := nI (sv + 1)) (lv' := [(2, .int (nI (sv + 1))), (1, .int (nI ((q_cr (q_rs T n ss) sv) + 1))), (0, .ref hc)]) hx hb dX1_countRests_29 hl (k := 2) rfl (nI_add _ 1) (by decide) rfl (fun ls hl => ?_)
          refine lv_goto (tgt := 4) hx hb dX1_countRests_32 (by decide) ?_
          have hl : lv_has ls 3 [(2, .int (nI (sv + 1))), (1, .int (nI (q_cr (q_rs T n ss) (sv + 1)))), (0, .ref hc)] := by rw [← show nI ((q_cr (q_rs T n ss) sv) + 1) = nI (q_cr (q_rs T n ss) (sv + 1)) from by show nI _ = nI (if q_rs T n ss sv then _ else _); rw [if_pos c_23]]; exact hl
          exact ih4 (sv + 1) (by first | assumption | exact Nat.zero_le _ | omega) (by omega) ls (lv_sub hl [2, 1, 0] rfl)
  refine lv_iconst (v := nI 0) hx hb dX1_countRests_0 (by decide) ?_
  refine lv_istore_n (lv' := [(1, .int (nI 0)), (0, .ref hc)]) hx hb dX1_countRests_1 rfl hl (by decide) rfl (fun ls hl => ?_)
  refine lv_iconst (v := nI 0) hx hb dX1_countRests_2 (by decide) ?_
  refine lv_istore_n (lv' := [(2, .int (nI 0)), (1, .int (nI 0)), (0, .ref hc)]) hx hb dX1_countRests_3 rfl hl (by decide) rfl (fun ls hl => ?_)
  exact L4 _ 0 (by first | assumption | exact Nat.zero_le _ | omega) (Nat.lt_succ_self _) ls (lv_sub hl [2, 1, 0] rfl)

set_option maxHeartbeats 4000000 in
set_option maxRecDepth 100000 in
theorem c_X1_restAt (l : Launch) {D : va_G} {cI cB cZ : ClassId} {hc : Nat} {ho : Nat} {hm : Nat} {hp : Nat} {hh : Nat} {ht : Nat} {n : Nat} {fo : Int32} {ss : Int32} {tr : Nat → Int32} {hom : Nat → Int32} {T : Nat → Nat → Nat} {i : Nat} (hT : q_Tr T n tr) (hB : q_Bd T n) (hH : q_Hm T n hom) (hi : i < 2147483648) : Met l yX1_restAt wsX1_restAt ({ frames := 5, cells := 0, slots := 0, locals := 117 } : Room) (va_Pc [.ref hc, .int (nI i)] (q_B D (q_tys cI cB cZ) [(hc, .inr (1, [.ref hm, .ref ho])), (hm, .inr (3, [.ref hp, .ref hh])), (hp, .inr (4, [.ref ht, .int (nI n), .int fo, .int ss])), (ht, .inl (cI, 35, .inl tr)), (hh, .inl (cI, 128, .inl hom))])) (vp_Si (fun r => r = q_ra (q_rs T n ss) i (2 ^ n) 0 0)) 0 0 (fun _ => False) := by
  refine Met.ofW (cc := cX1_restAt) (maxL := 4) (ret := (some .int)) (by decide) rfl ?_
  intro p e s m args below meth c s₁ B hml hv
  obtain ⟨rfl, hP, hK⟩ := hv
  have hx := B.exec
  have hb := B.bytes
  have hr := B.returns
  have hts := atoms_spec (ws := wsX1_restAt) B.pre
  have hown : s.vm.findClass RX1 = some m.cls := findClass_of_methodNamed B.named
  have hlocks := B.notSynchronized
  have hin1 : ∀ w ∈ u_ws RX1 TX1 2, w ∈ wsX1_restAt := by decide +kernel
  have hin3 : ∀ w ∈ u_ws RX3 TX3 2, w ∈ wsX1_restAt := by decide +kernel
  have hP : va_P D vwCl [(hc, .inr (1, [.ref hm, .ref ho])), (hm, .inr (3, [.ref hp, .ref hh])), (hp, .inr (4, [.ref ht, .int (nI n), .int fo, .int ss])), (ht, .inl (cI, 35, .inl tr)), (hh, .inl (cI, 128, .inl hom))] s.heap := hP
  have hl := lv_entry ([.ref hc, .int (nI i)]) (n := 4) (Nat.le_of_ble_eq_true rfl)
  rw [lg_entry_eq]
  generalize (lg_sl ([.ref hc, .int (nI i)]) ++ List.replicate (4 - (lg_sl ([.ref hc, .int (nI i)])).length) Slot.unset).toArray = ls at hl ⊢
  have hl : lv_has ls 4 [(0, .ref hc), (1, .int (nI i))] := hl
  have hn7 := hB.1
  have hp2 : 2 ^ n ≤ 128 := q_p2 hB.1
  have L4 : ∀ (fuel : Nat) (j : Nat) (sv : Nat) (a : Nat) (hj : j + sv = 2 ^ n) (ha : a ≤ sv) (hE : q_ra (q_rs T n ss) i (2 ^ n) 0 0 = q_ra (q_rs T n ss) i j sv a) (hf : j < fuel) (ls : Array Slot) (hl : lv_has ls 4 [(0, .ref hc), (1, .int (nI i)), (2, .int (nI a)), (3, .int (nI sv))]), W p l e (headSpec wsX1_restAt ({ frames := 5, cells := 0, slots := 0, locals := 117 } : Room)).room s m ([.ref hc, .int (nI i)] : List Value).toArray below meth c s.heap [] 0 0 (MQ below (vp_Si (fun r => r = q_ra (q_rs T n ss) i (2 ^ n) 0 0)) ([.ref hc, .int (nI i)] : List Value).toArray s 0 0 (fun _ => False)) (F0 m 4 ls []) := by
    intro fuel
    induction fuel with
    | zero =>
      intro j sv a hj ha hE hf ls hl
      exact absurd hf (Nat.not_lt_zero _)
    | succ fuel ih4 =>
      intro j sv a hj ha hE hf ls hl
      refine lv_iload_n hx hb dX1_restAt_4 rfl (lv_at hl 3 rfl) ?_
      refine lv_aload_n hx hb dX1_restAt_5 rfl (lv_at hl 0 rfl) ?_
      refine q_get (ci := 1) (CC := RX1) (T := TX1) (N := 2) (v := .ref hm) hx hb hts hin1 hown hK hP 0 rfl rfl 0 (by decide) (hts (.fieldLink RX1 15 "DearAsMany$Course" "market" "LDearAsMany$Market;") (by decide +kernel)) rfl rfl dX1_restAt_6 ?_
      refine q_get (ci := 3) (CC := RX3) (T := TX3) (N := 2) (v := .ref hp) hx hb hts hin3 hown hK hP 1 rfl rfl 0 (by decide) (hts (.fieldLink RX1 19 "DearAsMany$Market" "people" "LDearAsMany$People;") (by decide +kernel)) rfl rfl dX1_restAt_9 ?_
      refine q_vi (As := []) (rest := [.int (nI sv)]) ⟨hx, hb, hml, hown, hts⟩ (c_X4_sets l (D := D) (cI := cI) (cB := cB) (cZ := cZ) (hp := hp) (ht := ht) (n := n) (fo := fo) (ss := ss) (by first | assumption | exact Nat.zero_le _ | omega)) (cwV 0 hts gX1_restAt_X4_sets rfl rfl rfl (by decide +kernel) ⟨Nat.le_of_ble_eq_true rfl, Nat.le_of_ble_eq_true rfl⟩) hK hP [2] rfl 2 4 rfl rfl rfl rfl hl.1 rfl (Nat.le_of_ble_eq_true rfl) dX1_restAt_12 ⟨Nat.zero_le _, Nat.zero_le _⟩ (fun r_12 hr_12 => ?_)
      have hr_12 : nI (2 ^ n) = r_12 := (show r_12 = nI (2 ^ n) from hr_12).symm
      subst hr_12
      refine q_nge (tgt := 42) hx hb dX1_restAt_15 (by decide) (by omega) (by omega) (fun c_15 => ?_) (fun c_15 => ?_)
      · refine lv_bipush (v := (-4 : Int32)) hx hb dX1_restAt_42 (by decide) ?_
        exact q_zret (v := (-4 : Int32)) hx hb hr hlocks (rfl) (show (-4 : Int32) = q_ra (q_rs T n ss) i (2 ^ n) 0 0 from by rw [hE, show j = 0 from by omega]; rfl) dX1_restAt_44
      · obtain ⟨jj, rfl⟩ : ∃ jj, j = jj + 1 := ⟨j - 1, by omega⟩
        refine lv_aload_n hx hb dX1_restAt_18 rfl (lv_at hl 0 rfl) ?_
        refine lv_iload_n hx hb dX1_restAt_19 rfl (lv_at hl 3 rfl) ?_
        refine q_vi (As := [.int (nI sv)]) (rest := []) ⟨hx, hb, hml, hown, hts⟩ (c_X1_restsWith l (D := D) (cI := cI) (cB := cB) (cZ := cZ) (hc := hc) (ho := ho) (hm := hm) (hp := hp) (hh := hh) (ht := ht) (n := n) (fo := fo) (ss := ss) (tr := tr) (hom := hom) (T := T) (S := sv) (by first | assumption | exact Nat.zero_le _ | omega) (by first | assumption | exact Nat.zero_le _ | omega) (by first | assumption | exact Nat.zero_le _ | omega) (by first | assumption | exact Nat.zero_le _ | omega)) (cwV 1 hts gX1_restAt_X1_restsWith rfl rfl rfl (by decide +kernel) ⟨Nat.le_of_ble_eq_true rfl, Nat.le_of_ble_eq_true rfl⟩) hK hP [0, 1, 2, 3, 4] rfl 0 1 rfl rfl rfl rfl hl.1 rfl (Nat.le_of_ble_eq_true rfl) dX1_restAt_20 ⟨Nat.zero_le _, Nat.zero_le _⟩ (fun r_20 hr_20 => ?_)
        have hr_20 : bI (q_rs T n ss sv) = r_20 := (show r_20 = bI (q_rs T n ss sv) from hr_20).symm
        subst hr_20
        refine q_beq (tgt := 36) hx hb dX1_restAt_23 (by decide) (fun c_23 => ?_) (fun c_23 => ?_)
        · refine lv_iinc (v := nI (sv + 1)) (lv' := [(3, .int (nI (sv + 1))), (0, .ref hc), (1, .int (nI i)), (2, .int (nI a))]) hx hb dX1_restAt_36 hl (k := 3) rfl (nI_add _ 1) (by decide) rfl (fun ls hl => ?_)
          refine lv_goto (tgt := 4) hx hb dX1_restAt_39 (by decide) ?_
          exact ih4 jj (sv + 1) a (by omega) (by omega) (by rw [hE, q_ra, if_neg (by rw [c_23]; decide)]) (by omega) ls (lv_sub hl [1, 2, 3, 0] rfl)
        · refine lv_iload_n hx hb dX1_restAt_26 rfl (lv_at hl 2 rfl) ?_
          refine lv_iload_n hx hb dX1_restAt_27 rfl (lv_at hl 1 rfl) ?_
          refine q_nne (tgt := 33) hx hb dX1_restAt_28 (by decide) (by omega) (by omega) (fun c_28 => ?_) (fun c_28 => ?_)
          · refine lv_iinc (v := nI (a + 1)) (lv' := [(2, .int (nI (a + 1))), (0, .ref hc), (1, .int (nI i)), (3, .int (nI sv))]) hx hb dX1_restAt_33 hl (k := 2) rfl (nI_add _ 1) (by decide) rfl (fun ls hl => ?_)
            refine lv_iinc (v := nI (sv + 1)) (lv' := [(3, .int (nI (sv + 1))), (2, .int (nI (a + 1))), (0, .ref hc), (1, .int (nI i))]) hx hb dX1_restAt_36 hl (k := 3) rfl (nI_add _ 1) (by decide) rfl (fun ls hl => ?_)
            refine lv_goto (tgt := 4) hx hb dX1_restAt_39 (by decide) ?_
            exact ih4 jj (sv + 1) (a + 1) (by omega) (by omega) (by rw [hE, q_ra, if_pos c_23, if_neg c_28]) (by omega) ls (lv_sub hl [2, 3, 1, 0] rfl)
          · refine lv_iload_n hx hb dX1_restAt_31 rfl (lv_at hl 3 rfl) ?_
            exact q_zret (v := nI sv) hx hb hr hlocks (rfl) (show nI sv = q_ra (q_rs T n ss) i (2 ^ n) 0 0 from by rw [hE, q_ra, if_pos c_23, if_pos c_28]) dX1_restAt_32
  refine lv_iconst (v := nI 0) hx hb dX1_restAt_0 (by decide) ?_
  refine lv_istore_n (lv' := [(2, .int (nI 0)), (0, .ref hc), (1, .int (nI i))]) hx hb dX1_restAt_1 rfl hl (by decide) rfl (fun ls hl => ?_)
  refine lv_iconst (v := nI 0) hx hb dX1_restAt_2 (by decide) ?_
  refine lv_istore_n (lv' := [(3, .int (nI 0)), (2, .int (nI 0)), (0, .ref hc), (1, .int (nI i))]) hx hb dX1_restAt_3 rfl hl (by decide) rfl (fun ls hl => ?_)
  exact L4 _ (2 ^ n) 0 0 (rfl) (Nat.le_refl 0) (rfl) (Nat.lt_succ_self _) ls (lv_sub hl [2, 3, 1, 0] rfl)

set_option maxHeartbeats 4000000 in
set_option maxRecDepth 100000 in
theorem c_X1_lookFarAhead (l : Launch) {D : va_G} {cI cB cZ : ClassId} {hc : Nat} {ho : Nat} {hm : Nat} {hp : Nat} {hh : Nat} {ht : Nat} {n : Nat} {fo : Int32} {ss : Int32} {tr : Nat → Int32} {hom : Nat → Int32} {T : Nat → Nat → Nat} {t : Bool} {on : Nat → Int32} {zz : Nat} (hT : q_Tr T n tr) (hB : q_Bd T n) (hH : q_Hm T n hom) : Met l yX1_lookFarAhead wsX1_lookFarAhead ({ frames := 4, cells := 0, slots := 0, locals := 97 } : Room) (va_Pc [.ref hc, .int (bI t)] (q_M D (q_tys cI cB cZ) [(hc, .inr (1, [.ref hm, .ref ho])), (hm, .inr (3, [.ref hp, .ref hh])), (hp, .inr (4, [.ref ht, .int (nI n), .int fo, .int ss])), (ht, .inl (cI, 35, .inl tr)), (hh, .inl (cI, 128, .inl hom)), (ho, .inl (cI, 128, .inl on))] zz)) (va_Qv (S := (Nat → Int32)) (fun u => ∀ S, S < 2 ^ n → ∃ k, 128 ≤ k ∧ u S = nI (q_it (q_rd T n ss t) k S)) (fun u t => va_P D vwCl ((fun u => [(hc, .inr (1, [.ref hm, .ref ho])), (hm, .inr (3, [.ref hp, .ref hh])), (hp, .inr (4, [.ref ht, .int (nI n), .int fo, .int ss])), (ht, .inl (cI, 35, .inl tr)), (hh, .inl (cI, 128, .inl hom)), (ho, .inl (cI, 128, .inl u))]) u) t.heap) (va_A [(hc, .inr (1, [.ref hm, .ref ho])), (hm, .inr (3, [.ref hp, .ref hh])), (hp, .inr (4, [.ref ht, .int (nI n), .int fo, .int ss])), (ht, .inl (cI, 35, .inl tr)), (hh, .inl (cI, 128, .inl hom)), (ho, .inl (cI, 128, .inl on))] zz)) 0 0 (va_A [(hc, .inr (1, [.ref hm, .ref ho])), (hm, .inr (3, [.ref hp, .ref hh])), (hp, .inr (4, [.ref ht, .int (nI n), .int fo, .int ss])), (ht, .inl (cI, 35, .inl tr)), (hh, .inl (cI, 128, .inl hom)), (ho, .inl (cI, 128, .inl on))] zz) := by
  refine Met.ofW (cc := cX1_lookFarAhead) (maxL := 5) (ret := none) (by decide) rfl ?_
  intro p e s m args below meth c s₁ B hml hv
  obtain ⟨rfl, hsz, hP, hK, hD0⟩ := hv
  have hx := B.exec
  have hb := B.bytes
  have hr := B.returns
  have hts := atoms_spec (ws := wsX1_lookFarAhead) B.pre
  have hown : s.vm.findClass RX1 = some m.cls := findClass_of_methodNamed B.named
  have hlocks := B.notSynchronized
  have hin1 : ∀ w ∈ u_ws RX1 TX1 2, w ∈ wsX1_lookFarAhead := by decide +kernel
  have hin3 : ∀ w ∈ u_ws RX3 TX3 2, w ∈ wsX1_lookFarAhead := by decide +kernel
  have hin4 : ∀ w ∈ u_ws RX4 TX4 4, w ∈ wsX1_lookFarAhead := by decide +kernel
  subst hsz
  have hD := hD0.self (sz := s.heap.size)
  generalize hAe : va_A [(hc, .inr (1, [.ref hm, .ref ho])), (hm, .inr (3, [.ref hp, .ref hh])), (hp, .inr (4, [.ref ht, .int (nI n), .int fo, .int ss])), (ht, .inl (cI, 35, .inl tr)), (hh, .inl (cI, 128, .inl hom)), (ho, .inl (cI, 128, .inl on))] s.heap.size = A at hD ⊢
  have hA : ∀ q : Nat, s.heap.size ≤ q → A q := fun q h => by rw [← hAe]; exact Or.inr h
  have hS : va_S A s.heap s.heap [] := va_S.rf
  have hP : va_P D vwCl [(hc, .inr (1, [.ref hm, .ref ho])), (hm, .inr (3, [.ref hp, .ref hh])), (hp, .inr (4, [.ref ht, .int (nI n), .int fo, .int ss])), (ht, .inl (cI, 35, .inl tr)), (hh, .inl (cI, 128, .inl hom)), (ho, .inl (cI, 128, .inl on))] s.heap := hP
  have hl := lv_entry ([.ref hc, .int (bI t)]) (n := 5) (Nat.le_of_ble_eq_true rfl)
  rw [lg_entry_eq]
  generalize (lg_sl ([.ref hc, .int (bI t)]) ++ List.replicate (5 - (lg_sl ([.ref hc, .int (bI t)])).length) Slot.unset).toArray = ls at hl ⊢
  have hl : lv_has ls 5 [(0, .ref hc), (1, .int (bI t))] := hl
  have hn7 := hB.1
  have hp2 : 2 ^ n ≤ 128 := q_p2 hB.1
  have L53 : ∀ (fuel : Nat) (ps : Nat) (g : Nat → Int32) (hps : ps ≤ 7) (hg : ∀ S, S < 2 ^ n → ∃ k, 2 ^ ps ≤ k ∧ g S = nI (q_it (q_rd T n ss t) k S)) (hf : 7 - ps < fuel) (H : Heap) (locs : List Loc) (hP : va_P D vwCl [(hc, .inr (1, [.ref hm, .ref ho])), (hm, .inr (3, [.ref hp, .ref hh])), (hp, .inr (4, [.ref ht, .int (nI n), .int fo, .int ss])), (ht, .inl (cI, 35, .inl tr)), (hh, .inl (cI, 128, .inl hom)), (ho, .inl (cI, 128, .inl g))] H) (hD : va_D A [(hc, .inr (1, [.ref hm, .ref ho])), (hm, .inr (3, [.ref hp, .ref hh])), (hp, .inr (4, [.ref ht, .int (nI n), .int fo, .int ss])), (ht, .inl (cI, 35, .inl tr)), (hh, .inl (cI, 128, .inl hom)), (ho, .inl (cI, 128, .inl g))]) (hS : va_S A s.heap H locs) (ls : Array Slot) (hl : lv_has ls 5 [(0, .ref hc), (1, .int (bI t)), (2, .int ss), (3, .int (nI ps))]), W p l e (headSpec wsX1_lookFarAhead ({ frames := 4, cells := 0, slots := 0, locals := 97 } : Room)).room s m ([.ref hc, .int (bI t)] : List Value).toArray below meth c H locs 0 0 (MQ below (va_Qv (S := (Nat → Int32)) (fun u => ∀ S, S < 2 ^ n → ∃ k, 128 ≤ k ∧ u S = nI (q_it (q_rd T n ss t) k S)) (fun u t => va_P D vwCl ((fun u => [(hc, .inr (1, [.ref hm, .ref ho])), (hm, .inr (3, [.ref hp, .ref hh])), (hp, .inr (4, [.ref ht, .int (nI n), .int fo, .int ss])), (ht, .inl (cI, 35, .inl tr)), (hh, .inl (cI, 128, .inl hom)), (ho, .inl (cI, 128, .inl u))]) u) t.heap) A) ([.ref hc, .int (bI t)] : List Value).toArray s 0 0 A) (F0 m 53 ls []) := by
    intro fuel
    induction fuel with
    | zero =>
      intro ps g hps hg hf H locs hP hD hS ls hl
      exact absurd hf (Nat.not_lt_zero _)
    | succ fuel ih53 =>
      intro ps g hps hg hf H locs hP hD hS ls hl
      have L62 : ∀ (fuel : Nat) (sv : Nat) (g : Nat → Int32) (hp7 : ps < 7) (hs : sv ≤ 2 ^ n) (hg : ∀ S, S < 2 ^ n → ∃ k, 2 ^ ps ≤ k ∧ (S < sv → 2 ^ (ps + 1) ≤ k) ∧ g S = nI (q_it (q_rd T n ss t) k S)) (hf : 2 ^ n - sv < fuel) (H : Heap) (locs : List Loc) (hP : va_P D vwCl [(hc, .inr (1, [.ref hm, .ref ho])), (hm, .inr (3, [.ref hp, .ref hh])), (hp, .inr (4, [.ref ht, .int (nI n), .int fo, .int ss])), (ht, .inl (cI, 35, .inl tr)), (hh, .inl (cI, 128, .inl hom)), (ho, .inl (cI, 128, .inl g))] H) (hD : va_D A [(hc, .inr (1, [.ref hm, .ref ho])), (hm, .inr (3, [.ref hp, .ref hh])), (hp, .inr (4, [.ref ht, .int (nI n), .int fo, .int ss])), (ht, .inl (cI, 35, .inl tr)), (hh, .inl (cI, 128, .inl hom)), (ho, .inl (cI, 128, .inl g))]) (hS : va_S A s.heap H locs) (ls : Array Slot) (hl : lv_has ls 5 [(0, .ref hc), (1, .int (bI t)), (2, .int ss), (3, .int (nI ps)), (4, .int (nI sv))]), W p l e (headSpec wsX1_lookFarAhead ({ frames := 4, cells := 0, slots := 0, locals := 97 } : Room)).room s m ([.ref hc, .int (bI t)] : List Value).toArray below meth c H locs 0 0 (MQ below (va_Qv (S := (Nat → Int32)) (fun u => ∀ S, S < 2 ^ n → ∃ k, 128 ≤ k ∧ u S = nI (q_it (q_rd T n ss t) k S)) (fun u t => va_P D vwCl ((fun u => [(hc, .inr (1, [.ref hm, .ref ho])), (hm, .inr (3, [.ref hp, .ref hh])), (hp, .inr (4, [.ref ht, .int (nI n), .int fo, .int ss])), (ht, .inl (cI, 35, .inl tr)), (hh, .inl (cI, 128, .inl hom)), (ho, .inl (cI, 128, .inl u))]) u) t.heap) A) ([.ref hc, .int (bI t)] : List Value).toArray s 0 0 A) (F0 m 62 ls []) := by
        intro fuel
        induction fuel with
        | zero =>
          intro sv g hp7 hs hg hf H locs hP hD hS ls hl
          exact absurd hf (Nat.not_lt_zero _)
        | succ fuel ih62 =>
          intro sv g hp7 hs hg hf H locs hP hD hS ls hl
          refine lv_iload hx hb dX1_lookFarAhead_62 (lv_at hl 4 rfl) ?_
          refine lv_aload_n hx hb dX1_lookFarAhead_64 rfl (lv_at hl 0 rfl) ?_
          refine q_get (ci := 1) (CC := RX1) (T := TX1) (N := 2) (v := .ref hm) hx hb hts hin1 hown hK hP 0 rfl rfl 0 (by decide) (hts (.fieldLink RX1 15 "DearAsMany$Course" "market" "LDearAsMany$Market;") (by decide +kernel)) rfl rfl dX1_lookFarAhead_65 ?_
          refine q_get (ci := 3) (CC := RX3) (T := TX3) (N := 2) (v := .ref hp) hx hb hts hin3 hown hK hP 1 rfl rfl 0 (by decide) (hts (.fieldLink RX1 19 "DearAsMany$Market" "people" "LDearAsMany$People;") (by decide +kernel)) rfl rfl dX1_lookFarAhead_68 ?_
          refine q_vi (As := []) (rest := [.int (nI sv)]) ⟨hx, hb, hml, hown, hts⟩ (c_X4_sets l (D := D) (cI := cI) (cB := cB) (cZ := cZ) (hp := hp) (ht := ht) (n := n) (fo := fo) (ss := ss) (by first | assumption | exact Nat.zero_le _ | omega)) (cwV 0 hts gX1_lookFarAhead_X4_sets rfl rfl rfl (by decide +kernel) ⟨Nat.le_of_ble_eq_true rfl, Nat.le_of_ble_eq_true rfl⟩) hK hP [2] rfl 2 4 rfl rfl rfl rfl hl.1 rfl (Nat.le_of_ble_eq_true rfl) dX1_lookFarAhead_71 ⟨Nat.zero_le _, Nat.zero_le _⟩ (fun r_71 hr_71 => ?_)
          have hr_71 : nI (2 ^ n) = r_71 := (show r_71 = nI (2 ^ n) from hr_71).symm
          subst hr_71
          refine q_nge (tgt := 108) hx hb dX1_lookFarAhead_74 (by decide) (by omega) (by omega) (fun c_74 => ?_) (fun c_74 => ?_)
          · refine lv_iinc (v := nI (ps + 1)) (lv' := [(3, .int (nI (ps + 1))), (0, .ref hc), (1, .int (bI t)), (2, .int ss), (4, .int (nI sv))]) hx hb dX1_lookFarAhead_108 hl (k := 3) rfl (nI_add _ 1) (by decide) rfl (fun ls hl => ?_)
            refine lv_goto (tgt := 53) hx hb dX1_lookFarAhead_111 (by decide) ?_
            exact ih53 (ps + 1) g (by first | assumption | exact Nat.zero_le _ | omega) (fun S hS => (hg S hS).elim fun k h => ⟨k, h.2.1 (by omega), h.2.2⟩) (by omega) _ _ hP hD hS ls (lv_sub hl [1, 2, 3, 0] rfl)
          · obtain ⟨k1, hk1, _, e1⟩ := hg sv (by omega)
            have h1 := q_it_lt (f := q_rd T n ss t) (fun x hx => q_rd_lt hx) (x := sv) (by omega) k1
            obtain ⟨k2, hk2, _, e2⟩ := hg (q_it (q_rd T n ss t) k1 sv) h1
            refine lv_aload_n hx hb dX1_lookFarAhead_77 rfl (lv_at hl 0 rfl) ?_
            refine q_get (ci := 1) (CC := RX1) (T := TX1) (N := 2) (v := .ref ho) hx hb hts hin1 hown hK hP 0 rfl rfl 1 (by decide) (hts (.fieldLink RX1 9 "DearAsMany$Course" "onward" "[I") (by decide +kernel)) rfl rfl dX1_lookFarAhead_78 ?_
            refine lv_iload hx hb dX1_lookFarAhead_81 (lv_at hl 4 rfl) ?_
            refine lv_aload_n hx hb dX1_lookFarAhead_83 rfl (lv_at hl 0 rfl) ?_
            refine q_get (ci := 1) (CC := RX1) (T := TX1) (N := 2) (v := .ref ho) hx hb hts hin1 hown hK hP 0 rfl rfl 1 (by decide) (hts (.fieldLink RX1 9 "DearAsMany$Course" "onward" "[I") (by decide +kernel)) rfl rfl dX1_lookFarAhead_84 ?_
            refine lv_aload_n hx hb dX1_lookFarAhead_87 rfl (lv_at hl 0 rfl) ?_
            refine q_get (ci := 1) (CC := RX1) (T := TX1) (N := 2) (v := .ref ho) hx hb hts hin1 hown hK hP 0 rfl rfl 1 (by decide) (hts (.fieldLink RX1 9 "DearAsMany$Course" "onward" "[I") (by decide +kernel)) rfl rfl dX1_lookFarAhead_88 ?_
            refine lv_iload hx hb dX1_lookFarAhead_91 (lv_at hl 4 rfl) ?_
            refine q_ni (As := [.ref ho, .int (nI sv)]) (rest := [.ref ho, .int (nI sv), .ref ho]) ⟨hx, hb, hml, hown, hts⟩ (c_X9_at l (D := D) (cI := cI) (cB := cB) (cZ := cZ) (a := ho) (N := 128) (k := sv) (f := g) (by omega) (by decide)) ⟨va_cnB 2 hts gX1_lookFarAhead_X9_at_n61 rfl rfl rfl (hK.2.at 2 rfl) (hts (.initialized RX9) (by decide +kernel)) (by decide +kernel) ⟨Nat.le_of_ble_eq_true rfl, Nat.le_of_ble_eq_true rfl⟩, hts (.static yX9_at) (by decide +kernel), trivial⟩ hK hP [5] rfl rfl hl.1 rfl (Nat.le_of_ble_eq_true rfl) dX1_lookFarAhead_93 ⟨Nat.zero_le _, Nat.zero_le _⟩ (fun r_93 hr_93 => ?_)
            have hr_93 : nI (q_it (q_rd T n ss t) k1 sv) = r_93 := (Eq.trans (show r_93 = g sv from hr_93) (e1)).symm
            subst hr_93
            refine q_ni (As := [.ref ho, .int (nI (q_it (q_rd T n ss t) k1 sv))]) (rest := [.int (nI sv), .ref ho]) ⟨hx, hb, hml, hown, hts⟩ (c_X9_at l (D := D) (cI := cI) (cB := cB) (cZ := cZ) (a := ho) (N := 128) (k := q_it (q_rd T n ss t) k1 sv) (f := g) (by omega) (by decide)) ⟨va_cnB 2 hts gX1_lookFarAhead_X9_at_n61 rfl rfl rfl (hK.2.at 2 rfl) (hts (.initialized RX9) (by decide +kernel)) (by decide +kernel) ⟨Nat.le_of_ble_eq_true rfl, Nat.le_of_ble_eq_true rfl⟩, hts (.static yX9_at) (by decide +kernel), trivial⟩ hK hP [5] rfl rfl hl.1 rfl (Nat.le_of_ble_eq_true rfl) dX1_lookFarAhead_96 ⟨Nat.zero_le _, Nat.zero_le _⟩ (fun r_96 hr_96 => ?_)
            have hr_96 : nI (q_it (q_rd T n ss t) (k2 + k1) sv) = r_96 := (Eq.trans (show r_96 = g (q_it (q_rd T n ss t) k1 sv) from hr_96) (e2.trans (by rw [q_it_add]))).symm
            subst hr_96
            refine q_nmv (S := Unit) (w1 := fun _ => [(ho, .inl (cI, 128, .inl (upd g sv (nI (q_it (q_rd T n ss t) (k2 + k1) sv)))))]) (w2 := fun _ => [(hc, .inr (1, [.ref hm, .ref ho])), (hm, .inr (3, [.ref hp, .ref hh])), (hp, .inr (4, [.ref ht, .int (nI n), .int fo, .int ss])), (ht, .inl (cI, 35, .inl tr)), (hh, .inl (cI, 128, .inl hom)), (ho, .inl (cI, 128, .inl (upd g sv (nI (q_it (q_rd T n ss t) (k2 + k1) sv)))))]) (As := [.ref ho, .int (nI sv), .int (nI (q_it (q_rd T n ss t) (k2 + k1) sv))]) (rest := []) ⟨hx, hb, hml, hown, hts⟩ (c_X9_put l (D := D) (cI := cI) (cB := cB) (cZ := cZ) (a := ho) (N := 128) (k := sv) (f := g) (x := nI (q_it (q_rd T n ss t) (k2 + k1) sv)) (by omega) (by decide)) ⟨va_cnB 3 hts gX1_lookFarAhead_X9_put_n65 rfl rfl rfl (hK.2.at 3 rfl) (hts (.initialized RX9) (by decide +kernel)) (by decide +kernel) ⟨Nat.le_of_ble_eq_true rfl, Nat.le_of_ble_eq_true rfl⟩, hts (.static yX9_put) (by decide +kernel), trivial⟩ hK hP hD hS hA [5] rfl (by decide) rfl hl.1 rfl (Nat.le_of_ble_eq_true rfl) dX1_lookFarAhead_99 ⟨Nat.zero_le _, Nat.zero_le _⟩ (fun _ => rfl) (fun _ => rfl) (fun _ => rfl) (fun _ H locs hr_99 hP hD hS => ?_)
            have hP : va_P D vwCl [(hc, .inr (1, [.ref hm, .ref ho])), (hm, .inr (3, [.ref hp, .ref hh])), (hp, .inr (4, [.ref ht, .int (nI n), .int fo, .int ss])), (ht, .inl (cI, 35, .inl tr)), (hh, .inl (cI, 128, .inl hom)), (ho, .inl (cI, 128, .inl (upd g sv (nI (q_it (q_rd T n ss t) (k2 + k1) sv)))))] H := hP
            have hD : va_D A [(hc, .inr (1, [.ref hm, .ref ho])), (hm, .inr (3, [.ref hp, .ref hh])), (hp, .inr (4, [.ref ht, .int (nI n), .int fo, .int ss])), (ht, .inl (cI, 35, .inl tr)), (hh, .inl (cI, 128, .inl hom)), (ho, .inl (cI, 128, .inl (upd g sv (nI (q_it (q_rd T n ss t) (k2 + k1) sv)))))] := hD
            refine lv_iinc (v := nI (sv + 1)) (lv' := [(4, .int (nI (sv + 1))), (0, .ref hc), (1, .int (bI t)), (2, .int ss), (3, .int (nI ps))]) hx hb dX1_lookFarAhead_102 hl (k := 4) rfl (nI_add _ 1) (by decide) rfl (fun ls hl => ?_)
            refine lv_goto (tgt := 62) hx hb dX1_lookFarAhead_105 (by decide) ?_
            exact ih62 (sv + 1) (upd g sv (nI (q_it (q_rd T n ss t) (k2 + k1) sv))) (by first | assumption | exact Nat.zero_le _ | omega) (by omega) (q_lk hg (by have h2 : 2 ^ (ps + 1) = 2 * 2 ^ ps := Nat.pow_succ'; omega)) (by omega) _ _ hP hD hS ls (lv_sub hl [1, 2, 3, 4, 0] rfl)
      refine lv_iload_n hx hb dX1_lookFarAhead_53 rfl (lv_at hl 3 rfl) ?_
      refine lv_bipush (v := nI 7) hx hb dX1_lookFarAhead_54 (by decide) ?_
      refine q_nge (tgt := 114) hx hb dX1_lookFarAhead_56 (by decide) (by omega) (by omega) (fun c_56 => ?_) (fun c_56 => ?_)
      · exact q_mretv (S := (Nat → Int32)) (w1 := fun u => [(hc, .inr (1, [.ref hm, .ref ho])), (hm, .inr (3, [.ref hp, .ref hh])), (hp, .inr (4, [.ref ht, .int (nI n), .int fo, .int ss])), (ht, .inl (cI, 35, .inl tr)), (hh, .inl (cI, 128, .inl hom)), (ho, .inl (cI, 128, .inl u))]) g hx hb hr hlocks hP hS dX1_lookFarAhead_114 (by intro S hS; obtain ⟨k, a, b⟩ := hg S hS; rw [show ps = 7 from by omega] at a; exact ⟨k, a, b⟩)
      · refine lv_iconst (v := nI 0) hx hb dX1_lookFarAhead_59 (by decide) ?_
        refine lv_istore (lv' := [(4, .int (nI 0)), (0, .ref hc), (1, .int (bI t)), (2, .int ss), (3, .int (nI ps))]) hx hb dX1_lookFarAhead_60 hl (by decide) rfl (fun ls hl => ?_)
        exact L62 _ 0 g (by first | assumption | exact Nat.zero_le _ | omega) (Nat.zero_le _) (fun S hS => (hg S hS).elim fun k h => ⟨k, h.1, fun z => absurd z (Nat.not_lt_zero _), h.2⟩) (Nat.lt_succ_self _) _ _ hP hD hS ls (lv_sub hl [1, 2, 3, 4, 0] rfl)
  have L13 : ∀ (fuel : Nat) (sv : Nat) (g : Nat → Int32) (hs : sv ≤ 2 ^ n) (hg : ∀ S, S < sv → g S = nI (q_rd T n ss t S)) (hf : 2 ^ n - sv < fuel) (H : Heap) (locs : List Loc) (hP : va_P D vwCl [(hc, .inr (1, [.ref hm, .ref ho])), (hm, .inr (3, [.ref hp, .ref hh])), (hp, .inr (4, [.ref ht, .int (nI n), .int fo, .int ss])), (ht, .inl (cI, 35, .inl tr)), (hh, .inl (cI, 128, .inl hom)), (ho, .inl (cI, 128, .inl g))] H) (hD : va_D A [(hc, .inr (1, [.ref hm, .ref ho])), (hm, .inr (3, [.ref hp, .ref hh])), (hp, .inr (4, [.ref ht, .int (nI n), .int fo, .int ss])), (ht, .inl (cI, 35, .inl tr)), (hh, .inl (cI, 128, .inl hom)), (ho, .inl (cI, 128, .inl g))]) (hS : va_S A s.heap H locs) (ls : Array Slot) (hl : lv_has ls 5 [(0, .ref hc), (1, .int (bI t)), (2, .int ss), (3, .int (nI sv))]), W p l e (headSpec wsX1_lookFarAhead ({ frames := 4, cells := 0, slots := 0, locals := 97 } : Room)).room s m ([.ref hc, .int (bI t)] : List Value).toArray below meth c H locs 0 0 (MQ below (va_Qv (S := (Nat → Int32)) (fun u => ∀ S, S < 2 ^ n → ∃ k, 128 ≤ k ∧ u S = nI (q_it (q_rd T n ss t) k S)) (fun u t => va_P D vwCl ((fun u => [(hc, .inr (1, [.ref hm, .ref ho])), (hm, .inr (3, [.ref hp, .ref hh])), (hp, .inr (4, [.ref ht, .int (nI n), .int fo, .int ss])), (ht, .inl (cI, 35, .inl tr)), (hh, .inl (cI, 128, .inl hom)), (ho, .inl (cI, 128, .inl u))]) u) t.heap) A) ([.ref hc, .int (bI t)] : List Value).toArray s 0 0 A) (F0 m 13 ls []) := by
    intro fuel
    induction fuel with
    | zero =>
      intro sv g hs hg hf H locs hP hD hS ls hl
      exact absurd hf (Nat.not_lt_zero _)
    | succ fuel ih13 =>
      intro sv g hs hg hf H locs hP hD hS ls hl
      refine lv_iload_n hx hb dX1_lookFarAhead_13 rfl (lv_at hl 3 rfl) ?_
      refine lv_aload_n hx hb dX1_lookFarAhead_14 rfl (lv_at hl 0 rfl) ?_
      refine q_get (ci := 1) (CC := RX1) (T := TX1) (N := 2) (v := .ref hm) hx hb hts hin1 hown hK hP 0 rfl rfl 0 (by decide) (hts (.fieldLink RX1 15 "DearAsMany$Course" "market" "LDearAsMany$Market;") (by decide +kernel)) rfl rfl dX1_lookFarAhead_15 ?_
      refine q_get (ci := 3) (CC := RX3) (T := TX3) (N := 2) (v := .ref hp) hx hb hts hin3 hown hK hP 1 rfl rfl 0 (by decide) (hts (.fieldLink RX1 19 "DearAsMany$Market" "people" "LDearAsMany$People;") (by decide +kernel)) rfl rfl dX1_lookFarAhead_18 ?_
      refine q_vi (As := []) (rest := [.int (nI sv)]) ⟨hx, hb, hml, hown, hts⟩ (c_X4_sets l (D := D) (cI := cI) (cB := cB) (cZ := cZ) (hp := hp) (ht := ht) (n := n) (fo := fo) (ss := ss) (by first | assumption | exact Nat.zero_le _ | omega)) (cwV 0 hts gX1_lookFarAhead_X4_sets rfl rfl rfl (by decide +kernel) ⟨Nat.le_of_ble_eq_true rfl, Nat.le_of_ble_eq_true rfl⟩) hK hP [2] rfl 2 4 rfl rfl rfl rfl hl.1 rfl (Nat.le_of_ble_eq_true rfl) dX1_lookFarAhead_21 ⟨Nat.zero_le _, Nat.zero_le _⟩ (fun r_21 hr_21 => ?_)
      have hr_21 : nI (2 ^ n) = r_21 := (show r_21 = nI (2 ^ n) from hr_21).symm
      subst hr_21
      refine q_nge (tgt := 51) hx hb dX1_lookFarAhead_24 (by decide) (by omega) (by omega) (fun c_24 => ?_) (fun c_24 => ?_)
      · refine lv_iconst (v := nI 0) hx hb dX1_lookFarAhead_51 (by decide) ?_
        refine lv_istore_n (lv' := [(3, .int (nI 0)), (0, .ref hc), (1, .int (bI t)), (2, .int ss)]) hx hb dX1_lookFarAhead_52 rfl hl (by decide) rfl (fun ls hl => ?_)
        exact L53 _ 0 g (by decide) (fun S hS => ⟨1, by decide, hg S (by omega)⟩) (Nat.lt_succ_self _) _ _ hP hD hS ls (lv_sub hl [1, 2, 3, 0] rfl)
      · refine lv_aload_n hx hb dX1_lookFarAhead_27 rfl (lv_at hl 0 rfl) ?_
        refine q_get (ci := 1) (CC := RX1) (T := TX1) (N := 2) (v := .ref ho) hx hb hts hin1 hown hK hP 0 rfl rfl 1 (by decide) (hts (.fieldLink RX1 9 "DearAsMany$Course" "onward" "[I") (by decide +kernel)) rfl rfl dX1_lookFarAhead_28 ?_
        refine lv_iload_n hx hb dX1_lookFarAhead_31 rfl (lv_at hl 3 rfl) ?_
        refine lv_aload_n hx hb dX1_lookFarAhead_32 rfl (lv_at hl 0 rfl) ?_
        refine q_get (ci := 1) (CC := RX1) (T := TX1) (N := 2) (v := .ref hm) hx hb hts hin1 hown hK hP 0 rfl rfl 0 (by decide) (hts (.fieldLink RX1 15 "DearAsMany$Course" "market" "LDearAsMany$Market;") (by decide +kernel)) rfl rfl dX1_lookFarAhead_33 ?_
        refine lv_iload_n hx hb dX1_lookFarAhead_36 rfl (lv_at hl 3 rfl) ?_
        refine lv_iload_n hx hb dX1_lookFarAhead_37 rfl (lv_at hl 1 rfl) ?_
        refine lv_iload_n hx hb dX1_lookFarAhead_38 rfl (lv_at hl 2 rfl) ?_
        refine q_vi (As := [.int (nI sv), .int (bI t), .int ss]) (rest := [.int (nI sv), .ref ho]) ⟨hx, hb, hml, hown, hts⟩ (c_X3_nextOwners l (D := D) (cI := cI) (cB := cB) (cZ := cZ) (hm := hm) (hp := hp) (hh := hh) (ht := ht) (n := n) (fo := fo) (ss := ss) (tr := tr) (hom := hom) (T := T) (S := sv) (t := t) (se := ss) (by first | assumption | exact Nat.zero_le _ | omega) (by first | assumption | exact Nat.zero_le _ | omega) (by first | assumption | exact Nat.zero_le _ | omega) (by omega)) (cwV 3 hts gX1_lookFarAhead_X3_nextOwners rfl rfl rfl (by decide +kernel) ⟨Nat.le_of_ble_eq_true rfl, Nat.le_of_ble_eq_true rfl⟩) hK hP [1, 2, 3, 4] rfl 1 3 rfl rfl rfl rfl hl.1 rfl (Nat.le_of_ble_eq_true rfl) dX1_lookFarAhead_39 ⟨Nat.zero_le _, Nat.zero_le _⟩ (fun r_39 hr_39 => ?_)
        have hr_39 : nI (q_rd T n ss t sv) = r_39 := (show r_39 = nI (q_rd T n ss t sv) from hr_39).symm
        subst hr_39
        refine q_nmv (S := Unit) (w1 := fun _ => [(ho, .inl (cI, 128, .inl (upd g sv (nI (q_rd T n ss t sv)))))]) (w2 := fun _ => [(hc, .inr (1, [.ref hm, .ref ho])), (hm, .inr (3, [.ref hp, .ref hh])), (hp, .inr (4, [.ref ht, .int (nI n), .int fo, .int ss])), (ht, .inl (cI, 35, .inl tr)), (hh, .inl (cI, 128, .inl hom)), (ho, .inl (cI, 128, .inl (upd g sv (nI (q_rd T n ss t sv)))))]) (As := [.ref ho, .int (nI sv), .int (nI (q_rd T n ss t sv))]) (rest := []) ⟨hx, hb, hml, hown, hts⟩ (c_X9_put l (D := D) (cI := cI) (cB := cB) (cZ := cZ) (a := ho) (N := 128) (k := sv) (f := g) (x := nI (q_rd T n ss t sv)) (by omega) (by decide)) ⟨va_cnB 3 hts gX1_lookFarAhead_X9_put_n65 rfl rfl rfl (hK.2.at 3 rfl) (hts (.initialized RX9) (by decide +kernel)) (by decide +kernel) ⟨Nat.le_of_ble_eq_true rfl, Nat.le_of_ble_eq_true rfl⟩, hts (.static yX9_put) (by decide +kernel), trivial⟩ hK hP hD hS hA [5] rfl (by decide) rfl hl.1 rfl (Nat.le_of_ble_eq_true rfl) dX1_lookFarAhead_42 ⟨Nat.zero_le _, Nat.zero_le _⟩ (fun _ => rfl) (fun _ => rfl) (fun _ => rfl) (fun _ H locs hr_42 hP hD hS => ?_)
        have hP : va_P D vwCl [(hc, .inr (1, [.ref hm, .ref ho])), (hm, .inr (3, [.ref hp, .ref hh])), (hp, .inr (4, [.ref ht, .int (nI n), .int fo, .int ss])), (ht, .inl (cI, 35, .inl tr)), (hh, .inl (cI, 128, .inl hom)), (ho, .inl (cI, 128, .inl (upd g sv (nI (q_rd T n ss t sv)))))] H := hP
        have hD : va_D A [(hc, .inr (1, [.ref hm, .ref ho])), (hm, .inr (3, [.ref hp, .ref hh])), (hp, .inr (4, [.ref ht, .int (nI n), .int fo, .int ss])), (ht, .inl (cI, 35, .inl tr)), (hh, .inl (cI, 128, .inl hom)), (ho, .inl (cI, 128, .inl (upd g sv (nI (q_rd T n ss t sv)))))] := hD
        refine lv_iinc (v := nI (sv + 1)) (lv' := [(3, .int (nI (sv + 1))), (0, .ref hc), (1, .int (bI t)), (2, .int ss)]) hx hb dX1_lookFarAhead_45 hl (k := 3) rfl (nI_add _ 1) (by decide) rfl (fun ls hl => ?_)
        refine lv_goto (tgt := 13) hx hb dX1_lookFarAhead_48 (by decide) ?_
        exact ih13 (sv + 1) (upd g sv (nI (q_rd T n ss t sv))) (by first | assumption | exact Nat.zero_le _ | omega) (q_upd_lt (fun S => nI (q_rd T n ss t S)) hg) (by omega) _ _ hP hD hS ls (lv_sub hl [1, 2, 3, 0] rfl)
  refine lv_aload_n hx hb dX1_lookFarAhead_0 rfl (lv_at hl 0 rfl) ?_
  refine q_get (ci := 1) (CC := RX1) (T := TX1) (N := 2) (v := .ref hm) hx hb hts hin1 hown hK hP 0 rfl rfl 0 (by decide) (hts (.fieldLink RX1 15 "DearAsMany$Course" "market" "LDearAsMany$Market;") (by decide +kernel)) rfl rfl dX1_lookFarAhead_1 ?_
  refine q_get (ci := 3) (CC := RX3) (T := TX3) (N := 2) (v := .ref hp) hx hb hts hin3 hown hK hP 1 rfl rfl 0 (by decide) (hts (.fieldLink RX1 19 "DearAsMany$Market" "people" "LDearAsMany$People;") (by decide +kernel)) rfl rfl dX1_lookFarAhead_4 ?_
  refine q_get (ci := 4) (CC := RX4) (T := TX4) (N := 4) (v := .int ss) hx hb hts hin4 hown hK hP 2 rfl rfl 3 (by decide) (hts (.fieldLink RX1 25 "DearAsMany$People" "season" "I") (by decide +kernel)) rfl rfl dX1_lookFarAhead_7 ?_
  refine lv_istore_n (lv' := [(2, .int ss), (0, .ref hc), (1, .int (bI t))]) hx hb dX1_lookFarAhead_10 rfl hl (by decide) rfl (fun ls hl => ?_)
  refine lv_iconst (v := nI 0) hx hb dX1_lookFarAhead_11 (by decide) ?_
  refine lv_istore_n (lv' := [(3, .int (nI 0)), (2, .int ss), (0, .ref hc), (1, .int (bI t))]) hx hb dX1_lookFarAhead_12 rfl hl (by decide) rfl (fun ls hl => ?_)
  exact L13 _ 0 on (by first | assumption | exact Nat.zero_le _ | omega) (fun S h => absurd h (Nat.not_lt_zero _)) (Nat.lt_succ_self _) _ _ hP hD hS ls (lv_sub hl [2, 3, 1, 0] rfl)

set_option maxHeartbeats 4000000 in
set_option maxRecDepth 100000 in
/-- TIP -/
theorem c_X1_leastPush (l : Launch) {D : va_G} {cI cB cZ : ClassId} {hc : Nat} {ho : Nat} {hm : Nat} {hp : Nat} {hh : Nat} {ht : Nat} {n : Nat} {fo : Int32} {ss : Int32} {tr : Nat → Int32} {hom : Nat → Int32} {T : Nat → Nat → Nat} {ow : Nat} {goal : Nat} {t : Bool} {on : Nat → Int32} {zz : Nat} (hT : q_Tr T n tr) (hB : q_Bd T n) (hH : q_Hm T n hom) (how : ow < 2 ^ n) (hgo : goal < 2 ^ n) : Met l yX1_leastPush wsX1_leastPush ({ frames := 5, cells := 0, slots := 0, locals := 121 } : Room) (va_Pc [.ref hc, .int (nI ow), .int (nI goal), .int (bI t)] (q_M D (q_tys cI cB cZ) [(hc, .inr (1, [.ref hm, .ref ho])), (hm, .inr (3, [.ref hp, .ref hh])), (hp, .inr (4, [.ref ht, .int (nI n), .int fo, .int ss])), (ht, .inl (cI, 35, .inl tr)), (hh, .inl (cI, 128, .inl hom)), (ho, .inl (cI, 128, .inl on))] zz)) (va_Qi (S := (Nat → Int32)) (fun r u => r = q_tp T n ss t ow goal ∧ True) (fun u t => va_P D vwCl ((fun u => [(hc, .inr (1, [.ref hm, .ref ho])), (hm, .inr (3, [.ref hp, .ref hh])), (hp, .inr (4, [.ref ht, .int (nI n), .int fo, .int ss])), (ht, .inl (cI, 35, .inl tr)), (hh, .inl (cI, 128, .inl hom)), (ho, .inl (cI, 128, .inl u))]) u) t.heap) (va_A [(hc, .inr (1, [.ref hm, .ref ho])), (hm, .inr (3, [.ref hp, .ref hh])), (hp, .inr (4, [.ref ht, .int (nI n), .int fo, .int ss])), (ht, .inl (cI, 35, .inl tr)), (hh, .inl (cI, 128, .inl hom)), (ho, .inl (cI, 128, .inl on))] zz)) 0 0 (va_A [(hc, .inr (1, [.ref hm, .ref ho])), (hm, .inr (3, [.ref hp, .ref hh])), (hp, .inr (4, [.ref ht, .int (nI n), .int fo, .int ss])), (ht, .inl (cI, 35, .inl tr)), (hh, .inl (cI, 128, .inl hom)), (ho, .inl (cI, 128, .inl on))] zz) := by
  refine Met.ofW (cc := cX1_leastPush) (maxL := 8) (ret := (some .int)) (by decide) rfl ?_
  intro p e s m args below meth c s₁ B hml hv
  obtain ⟨rfl, hsz, hP, hK, hD0⟩ := hv
  have hx := B.exec
  have hb := B.bytes
  have hr := B.returns
  have hts := atoms_spec (ws := wsX1_leastPush) B.pre
  have hown : s.vm.findClass RX1 = some m.cls := findClass_of_methodNamed B.named
  have hlocks := B.notSynchronized
  have hin1 : ∀ w ∈ u_ws RX1 TX1 2, w ∈ wsX1_leastPush := by decide +kernel
  have hin3 : ∀ w ∈ u_ws RX3 TX3 2, w ∈ wsX1_leastPush := by decide +kernel
  subst hsz
  have hD := hD0.self (sz := s.heap.size)
  generalize hAe : va_A [(hc, .inr (1, [.ref hm, .ref ho])), (hm, .inr (3, [.ref hp, .ref hh])), (hp, .inr (4, [.ref ht, .int (nI n), .int fo, .int ss])), (ht, .inl (cI, 35, .inl tr)), (hh, .inl (cI, 128, .inl hom)), (ho, .inl (cI, 128, .inl on))] s.heap.size = A at hD ⊢
  have hA : ∀ q : Nat, s.heap.size ≤ q → A q := fun q h => by rw [← hAe]; exact Or.inr h
  have hS : va_S A s.heap s.heap [] := va_S.rf
  have hP : va_P D vwCl [(hc, .inr (1, [.ref hm, .ref ho])), (hm, .inr (3, [.ref hp, .ref hh])), (hp, .inr (4, [.ref ht, .int (nI n), .int fo, .int ss])), (ht, .inl (cI, 35, .inl tr)), (hh, .inl (cI, 128, .inl hom)), (ho, .inl (cI, 128, .inl on))] s.heap := hP
  have hl := lv_entry ([.ref hc, .int (nI ow), .int (nI goal), .int (bI t)]) (n := 8) (Nat.le_of_ble_eq_true rfl)
  rw [lg_entry_eq]
  generalize (lg_sl ([.ref hc, .int (nI ow), .int (nI goal), .int (bI t)]) ++ List.replicate (8 - (lg_sl ([.ref hc, .int (nI ow), .int (nI goal), .int (bI t)])).length) Slot.unset).toArray = ls at hl ⊢
  have hl : lv_has ls 8 [(0, .ref hc), (1, .int (nI ow)), (2, .int (nI goal)), (3, .int (bI t))] := hl
  have hn7 := hB.1
  have hp2 : 2 ^ n ≤ 128 := q_p2 hB.1
  have L27 : ∀ (fuel : Nat) (sv : Nat) (g : Nat → Int32) (hs : sv ≤ 2 ^ n) (hR : q_rs T n ss goal = true) (hg : ∀ S, S < 2 ^ n → ∃ k, 128 ≤ k ∧ g S = nI (q_it (q_rd T n ss t) k S)) (hf : 2 ^ n - sv < fuel) (H : Heap) (locs : List Loc) (hP : va_P D vwCl [(hc, .inr (1, [.ref hm, .ref ho])), (hm, .inr (3, [.ref hp, .ref hh])), (hp, .inr (4, [.ref ht, .int (nI n), .int fo, .int ss])), (ht, .inl (cI, 35, .inl tr)), (hh, .inl (cI, 128, .inl hom)), (ho, .inl (cI, 128, .inl g))] H) (hD : va_D A [(hc, .inr (1, [.ref hm, .ref ho])), (hm, .inr (3, [.ref hp, .ref hh])), (hp, .inr (4, [.ref ht, .int (nI n), .int fo, .int ss])), (ht, .inl (cI, 35, .inl tr)), (hh, .inl (cI, 128, .inl hom)), (ho, .inl (cI, 128, .inl g))]) (hS : va_S A s.heap H locs) (ls : Array Slot) (hl : lv_has ls 8 [(0, .ref hc), (1, .int (nI ow)), (2, .int (nI goal)), (3, .int (bI t)), (4, .int (q_oc (q_min (q_P1 T n ss t ow goal) sv))), (5, .int (nI (q_fw (q_min (q_P1 T n ss t ow goal) sv)))), (6, .int (nI sv))]), W p l e (headSpec wsX1_leastPush ({ frames := 5, cells := 0, slots := 0, locals := 121 } : Room)).room s m ([.ref hc, .int (nI ow), .int (nI goal), .int (bI t)] : List Value).toArray below meth c H locs 0 0 (MQ below (va_Qi (S := (Nat → Int32)) (fun r u => r = q_tp T n ss t ow goal ∧ True) (fun u t => va_P D vwCl ((fun u => [(hc, .inr (1, [.ref hm, .ref ho])), (hm, .inr (3, [.ref hp, .ref hh])), (hp, .inr (4, [.ref ht, .int (nI n), .int fo, .int ss])), (ht, .inl (cI, 35, .inl tr)), (hh, .inl (cI, 128, .inl hom)), (ho, .inl (cI, 128, .inl u))]) u) t.heap) A) ([.ref hc, .int (nI ow), .int (nI goal), .int (bI t)] : List Value).toArray s 0 0 A) (F0 m 27 ls []) := by
    intro fuel
    induction fuel with
    | zero =>
      intro sv g hs hR hg hf H locs hP hD hS ls hl
      exact absurd hf (Nat.not_lt_zero _)
    | succ fuel ih27 =>
      intro sv g hs hR hg hf H locs hP hD hS ls hl
      refine lv_iload hx hb dX1_leastPush_27 (lv_at hl 6 rfl) ?_
      refine lv_aload_n hx hb dX1_leastPush_29 rfl (lv_at hl 0 rfl) ?_
      refine q_get (ci := 1) (CC := RX1) (T := TX1) (N := 2) (v := .ref hm) hx hb hts hin1 hown hK hP 0 rfl rfl 0 (by decide) (hts (.fieldLink RX1 15 "DearAsMany$Course" "market" "LDearAsMany$Market;") (by decide +kernel)) rfl rfl dX1_leastPush_30 ?_
      refine q_get (ci := 3) (CC := RX3) (T := TX3) (N := 2) (v := .ref hp) hx hb hts hin3 hown hK hP 1 rfl rfl 0 (by decide) (hts (.fieldLink RX1 19 "DearAsMany$Market" "people" "LDearAsMany$People;") (by decide +kernel)) rfl rfl dX1_leastPush_33 ?_
      refine q_vi (As := []) (rest := [.int (nI sv)]) ⟨hx, hb, hml, hown, hts⟩ (c_X4_sets l (D := D) (cI := cI) (cB := cB) (cZ := cZ) (hp := hp) (ht := ht) (n := n) (fo := fo) (ss := ss) (by omega)) (cwV 0 hts gX1_leastPush_X4_sets rfl rfl rfl (by decide +kernel) ⟨Nat.le_of_ble_eq_true rfl, Nat.le_of_ble_eq_true rfl⟩) hK hP [2] rfl 2 4 rfl rfl rfl rfl hl.1 rfl (Nat.le_of_ble_eq_true rfl) dX1_leastPush_36 ⟨Nat.zero_le _, Nat.zero_le _⟩ (fun r_36 hr_36 => ?_)
      have hr_36 : nI (2 ^ n) = r_36 := (show r_36 = nI (2 ^ n) from hr_36).symm
      subst hr_36
      refine q_nge (tgt := 85) hx hb dX1_leastPush_39 (by decide) (by omega) (by omega) (fun c_39 => ?_) (fun c_39 => ?_)
      · refine lv_iload hx hb dX1_leastPush_85 (lv_at hl 4 rfl) ?_
        exact q_mret (S := (Nat → Int32)) (v := q_oc (q_min (q_P1 T n ss t ow goal) sv)) (w1 := fun u => [(hc, .inr (1, [.ref hm, .ref ho])), (hm, .inr (3, [.ref hp, .ref hh])), (hp, .inr (4, [.ref ht, .int (nI n), .int fo, .int ss])), (ht, .inl (cI, 35, .inl tr)), (hh, .inl (cI, 128, .inl hom)), (ho, .inl (cI, 128, .inl u))]) g hx hb hr hlocks (rfl) hP hS dX1_leastPush_87 (by exact ⟨by rw [q_tp, if_pos hR, show sv = 2 ^ n from by omega], trivial⟩)
      · refine lv_iload hx hb dX1_leastPush_42 (lv_at hl 6 rfl) ?_
        refine q_si (As := [.int (nI sv)]) (rest := []) ⟨hx, hb, hml, hown, hts⟩ (c_J6_bitCount_0f7a4 l (D := D) (cI := cI) (cB := cB) (cZ := cZ) (k := sv) (by omega)) (va_cwS 1 hts gX1_leastPush_J6_bitCount_0f7a4 rfl rfl rfl (by decide +kernel) ⟨Nat.le_of_ble_eq_true rfl, Nat.le_of_ble_eq_true rfl⟩) hK hP [] rfl rfl hl.1 rfl (Nat.le_of_ble_eq_true rfl) dX1_leastPush_44 ⟨Nat.zero_le _, Nat.zero_le _⟩ (fun r_44 hr_44 => ?_)
        have hr_44 : nI (pop8 sv) = r_44 := (show r_44 = nI (pop8 sv) from hr_44).symm
        subst hr_44
        refine lv_istore (lv' := [(7, .int (nI (pop8 sv))), (0, .ref hc), (1, .int (nI ow)), (2, .int (nI goal)), (3, .int (bI t)), (4, .int (q_oc (q_min (q_P1 T n ss t ow goal) sv))), (5, .int (nI (q_fw (q_min (q_P1 T n ss t ow goal) sv)))), (6, .int (nI sv))]) hx hb dX1_leastPush_47 hl (by decide) rfl (fun ls hl => ?_)
        refine lv_iload hx hb dX1_leastPush_49 (lv_at hl 0 rfl) ?_
        refine lv_iload hx hb dX1_leastPush_51 (lv_at hl 6 rfl) ?_
        refine q_nge (tgt := 79) hx hb dX1_leastPush_53 (by decide) (by have := pop8_le sv; omega) (by have := q_fw_le (q_min (q_P1 T n ss t ow goal) sv); omega) (fun c_53 => ?_) (fun c_53 => ?_)
        · refine lv_iinc (v := nI (sv + 1)) (lv' := [(6, .int (nI (sv + 1))), (7, .int (nI (pop8 sv))), (0, .ref hc), (1, .int (nI ow)), (2, .int (nI goal)), (3, .int (bI t)), (4, .int (q_oc (q_min (q_P1 T n ss t ow goal) sv))), (5, .int (nI (q_fw (q_min (q_P1 T n ss t ow goal) sv))))]) hx hb dX1_leastPush_79 hl (k := 7) rfl (nI_add _ 1) (by decide) rfl (fun ls hl => ?_)
          refine lv_goto (tgt := 27) hx hb dX1_leastPush_82 (by decide) ?_
          have hl : lv_has ls 8 [(6, .int (nI (sv + 1))), (7, .int (nI (pop8 sv))), (0, .ref hc), (1, .int (nI ow)), (2, .int (nI goal)), (3, .int (bI t)), (4, .int (q_oc (q_min (q_P1 T n ss t ow goal) (sv + 1)))), (5, .int (nI (q_fw (q_min (q_P1 T n ss t ow goal) sv))))] := by rw [← show q_oc (q_min (q_P1 T n ss t ow goal) sv) = q_oc (q_min (q_P1 T n ss t ow goal) (sv + 1)) from by rw [q_minG (by omega) (Nat.not_lt.mpr c_53)]]; exact hl
          have hl : lv_has ls 8 [(6, .int (nI (sv + 1))), (7, .int (nI (pop8 sv))), (0, .ref hc), (1, .int (nI ow)), (2, .int (nI goal)), (3, .int (bI t)), (4, .int (q_oc (q_min (q_P1 T n ss t ow goal) (sv + 1)))), (5, .int (nI (q_fw (q_min (q_P1 T n ss t ow goal) (sv + 1)))))] := by rw [← show nI (q_fw (q_min (q_P1 T n ss t ow goal) sv)) = nI (q_fw (q_min (q_P1 T n ss t ow goal) (sv + 1))) from by rw [q_minG (by omega) (Nat.not_lt.mpr c_53)]]; exact hl
          exact ih27 (sv + 1) g (by first | assumption | exact Nat.zero_le _ | omega) (hR) (hg) (by omega) _ _ hP hD hS ls (lv_sub hl [2, 3, 4, 5, 6, 7, 0] rfl)
        · have hxs : ow ^^^ sv < 2 ^ n := Nat.xor_lt_two_pow how (by omega)
          obtain ⟨k1, hk1, e1⟩ := hg (ow ^^^ sv) hxs
          refine lv_aload_n hx hb dX1_leastPush_56 rfl (lv_at hl 1 rfl) ?_
          refine q_get (ci := 1) (CC := RX1) (T := TX1) (N := 2) (v := .ref ho) hx hb hts hin1 hown hK hP 0 rfl rfl 1 (by decide) (hts (.fieldLink RX1 9 "DearAsMany$Course" "onward" "[I") (by decide +kernel)) rfl rfl dX1_leastPush_57 ?_
          refine lv_iload_n hx hb dX1_leastPush_60 rfl (lv_at hl 2 rfl) ?_
          refine lv_iload hx hb dX1_leastPush_61 (lv_at hl 7 rfl) ?_
          refine q_ixor (v := nI (ow ^^^ sv)) hx hb dX1_leastPush_63 (q_xor _ _) ?_
          refine q_ni (As := [.ref ho, .int (nI (ow ^^^ sv))]) (rest := []) ⟨hx, hb, hml, hown, hts⟩ (c_X9_at l (D := D) (cI := cI) (cB := cB) (cZ := cZ) (a := ho) (N := 128) (k := ow ^^^ sv) (f := g) (by omega) (by decide)) ⟨va_cnB 2 hts gX1_leastPush_X9_at_n61 rfl rfl rfl (hK.2.at 2 rfl) (hts (.initialized RX9) (by decide +kernel)) (by decide +kernel) ⟨Nat.le_of_ble_eq_true rfl, Nat.le_of_ble_eq_true rfl⟩, hts (.static yX9_at) (by decide +kernel), trivial⟩ hK hP [5] rfl rfl hl.1 rfl (Nat.le_of_ble_eq_true rfl) dX1_leastPush_64 ⟨Nat.zero_le _, Nat.zero_le _⟩ (fun r_64 hr_64 => ?_)
          have hr_64 : nI (q_it (q_rd T n ss t) k1 (ow ^^^ sv)) = r_64 := (Eq.trans (show r_64 = g (ow ^^^ sv) from hr_64) (e1)).symm
          subst hr_64
          refine lv_iload_n hx hb dX1_leastPush_67 rfl (lv_at hl 3 rfl) ?_
          refine q_nne (tgt := 79) hx hb dX1_leastPush_68 (by decide) (by have := q_it_lt (f := q_rd T n ss t) (fun x hx => q_rd_lt hx) hxs k1; omega) (by omega) (fun c_68 => ?_) (fun c_68 => ?_)
          · refine lv_iinc (v := nI (sv + 1)) (lv' := [(6, .int (nI (sv + 1))), (7, .int (nI (pop8 sv))), (0, .ref hc), (1, .int (nI ow)), (2, .int (nI goal)), (3, .int (bI t)), (4, .int (q_oc (q_min (q_P1 T n ss t ow goal) sv))), (5, .int (nI (q_fw (q_min (q_P1 T n ss t ow goal) sv))))]) hx hb dX1_leastPush_79 hl (k := 7) rfl (nI_add _ 1) (by decide) rfl (fun ls hl => ?_)
            refine lv_goto (tgt := 27) hx hb dX1_leastPush_82 (by decide) ?_
            have hl : lv_has ls 8 [(6, .int (nI (sv + 1))), (7, .int (nI (pop8 sv))), (0, .ref hc), (1, .int (nI ow)), (2, .int (nI goal)), (3, .int (bI t)), (4, .int (q_oc (q_min (q_P1 T n ss t ow goal) (sv + 1)))), (5, .int (nI (q_fw (q_min (q_P1 T n ss t ow goal) sv))))] := by rw [← show q_oc (q_min (q_P1 T n ss t ow goal) sv) = q_oc (q_min (q_P1 T n ss t ow goal) (sv + 1)) from by rw [q_minF (P := (q_P1 T n ss t ow goal)) (s := sv) (decide_eq_false (fun z => c_68 ((q_fix_far (fun x hx => q_rd_lt hx) hp2 hxs (q_rs_rd hR) hk1).mpr z)))]]; exact hl
            have hl : lv_has ls 8 [(6, .int (nI (sv + 1))), (7, .int (nI (pop8 sv))), (0, .ref hc), (1, .int (nI ow)), (2, .int (nI goal)), (3, .int (bI t)), (4, .int (q_oc (q_min (q_P1 T n ss t ow goal) (sv + 1)))), (5, .int (nI (q_fw (q_min (q_P1 T n ss t ow goal) (sv + 1)))))] := by rw [← show nI (q_fw (q_min (q_P1 T n ss t ow goal) sv)) = nI (q_fw (q_min (q_P1 T n ss t ow goal) (sv + 1))) from by rw [q_minF (P := (q_P1 T n ss t ow goal)) (s := sv) (decide_eq_false (fun z => c_68 ((q_fix_far (fun x hx => q_rd_lt hx) hp2 hxs (q_rs_rd hR) hk1).mpr z)))]]; exact hl
            exact ih27 (sv + 1) g (by first | assumption | exact Nat.zero_le _ | omega) (hR) (hg) (by omega) _ _ hP hD hS ls (lv_sub hl [2, 3, 4, 5, 6, 7, 0] rfl)
          · refine lv_iload hx hb dX1_leastPush_71 (lv_at hl 7 rfl) ?_
            refine lv_istore (lv' := [(4, .int (nI sv)), (7, .int (nI (pop8 sv))), (0, .ref hc), (1, .int (nI ow)), (2, .int (nI goal)), (3, .int (bI t)), (5, .int (nI (q_fw (q_min (q_P1 T n ss t ow goal) sv)))), (6, .int (nI sv))]) hx hb dX1_leastPush_73 hl (by decide) rfl (fun ls hl => ?_)
            refine lv_iload hx hb dX1_leastPush_75 (lv_at hl 1 rfl) ?_
            refine lv_istore (lv' := [(5, .int (nI (pop8 sv))), (4, .int (nI sv)), (7, .int (nI (pop8 sv))), (0, .ref hc), (1, .int (nI ow)), (2, .int (nI goal)), (3, .int (bI t)), (6, .int (nI sv))]) hx hb dX1_leastPush_77 hl (by decide) rfl (fun ls hl => ?_)
            refine lv_iinc (v := nI (sv + 1)) (lv' := [(6, .int (nI (sv + 1))), (5, .int (nI (pop8 sv))), (4, .int (nI sv)), (7, .int (nI (pop8 sv))), (0, .ref hc), (1, .int (nI ow)), (2, .int (nI goal)), (3, .int (bI t))]) hx hb dX1_leastPush_79 hl (k := 7) rfl (nI_add _ 1) (by decide) rfl (fun ls hl => ?_)
            refine lv_goto (tgt := 27) hx hb dX1_leastPush_82 (by decide) ?_
            have hl : lv_has ls 8 [(6, .int (nI (sv + 1))), (5, .int (nI (pop8 sv))), (4, .int (q_oc (q_min (q_P1 T n ss t ow goal) (sv + 1)))), (7, .int (nI (pop8 sv))), (0, .ref hc), (1, .int (nI ow)), (2, .int (nI goal)), (3, .int (bI t))] := by rw [← show nI sv = q_oc (q_min (q_P1 T n ss t ow goal) (sv + 1)) from by rw [q_minT (P := (q_P1 T n ss t ow goal)) (s := sv) (by omega) (decide_eq_true ((q_fix_far (fun x hx => q_rd_lt hx) hp2 hxs (q_rs_rd hR) hk1).mp c_68)) (by omega)]; rfl]; exact hl
            have hl : lv_has ls 8 [(6, .int (nI (sv + 1))), (5, .int (nI (q_fw (q_min (q_P1 T n ss t ow goal) (sv + 1))))), (4, .int (q_oc (q_min (q_P1 T n ss t ow goal) (sv + 1)))), (7, .int (nI (pop8 sv))), (0, .ref hc), (1, .int (nI ow)), (2, .int (nI goal)), (3, .int (bI t))] := by rw [← show nI (pop8 sv) = nI (q_fw (q_min (q_P1 T n ss t ow goal) (sv + 1))) from by rw [q_minT (P := (q_P1 T n ss t ow goal)) (s := sv) (by omega) (decide_eq_true ((q_fix_far (fun x hx => q_rd_lt hx) hp2 hxs (q_rs_rd hR) hk1).mp c_68)) (by omega)]; rfl]; exact hl
            exact ih27 (sv + 1) g (by first | assumption | exact Nat.zero_le _ | omega) (hR) (hg) (by omega) _ _ hP hD hS ls (lv_sub hl [4, 5, 6, 7, 2, 1, 0] rfl)
  refine lv_aload_n hx hb dX1_leastPush_0 rfl (lv_at hl 0 rfl) ?_
  refine lv_iload_n hx hb dX1_leastPush_1 rfl (lv_at hl 2 rfl) ?_
  refine q_vi (As := [.int (nI goal)]) (rest := []) ⟨hx, hb, hml, hown, hts⟩ (c_X1_restsWith l (D := D) (cI := cI) (cB := cB) (cZ := cZ) (hc := hc) (ho := ho) (hm := hm) (hp := hp) (hh := hh) (ht := ht) (n := n) (fo := fo) (ss := ss) (tr := tr) (hom := hom) (T := T) (S := goal) (by first | assumption | exact Nat.zero_le _ | omega) (by first | assumption | exact Nat.zero_le _ | omega) (by first | assumption | exact Nat.zero_le _ | omega) (hgo)) (cwV 1 hts gX1_leastPush_X1_restsWith rfl rfl rfl (by decide +kernel) ⟨Nat.le_of_ble_eq_true rfl, Nat.le_of_ble_eq_true rfl⟩) hK hP [0, 1, 2, 3, 4] rfl 0 1 rfl rfl rfl rfl hl.1 rfl (Nat.le_of_ble_eq_true rfl) dX1_leastPush_2 ⟨Nat.zero_le _, Nat.zero_le _⟩ (fun r_2 hr_2 => ?_)
  have hr_2 : bI (q_rs T n ss goal) = r_2 := (show r_2 = bI (q_rs T n ss goal) from hr_2).symm
  subst hr_2
  refine q_bne (tgt := 11) hx hb dX1_leastPush_5 (by decide) (fun c_5 => ?_) (fun c_5 => ?_)
  · refine lv_aload_n hx hb dX1_leastPush_11 rfl (lv_at hl 0 rfl) ?_
    refine lv_iload_n hx hb dX1_leastPush_12 rfl (lv_at hl 3 rfl) ?_
    refine q_vmv (S := (Nat → Int32)) (w1 := fun u => [(hc, .inr (1, [.ref hm, .ref ho])), (hm, .inr (3, [.ref hp, .ref hh])), (hp, .inr (4, [.ref ht, .int (nI n), .int fo, .int ss])), (ht, .inl (cI, 35, .inl tr)), (hh, .inl (cI, 128, .inl hom)), (ho, .inl (cI, 128, .inl u))]) (w2 := fun u => [(hc, .inr (1, [.ref hm, .ref ho])), (hm, .inr (3, [.ref hp, .ref hh])), (hp, .inr (4, [.ref ht, .int (nI n), .int fo, .int ss])), (ht, .inl (cI, 35, .inl tr)), (hh, .inl (cI, 128, .inl hom)), (ho, .inl (cI, 128, .inl u))]) (As := [.int (bI t)]) (rest := []) ⟨hx, hb, hml, hown, hts⟩ (c_X1_lookFarAhead l (D := D) (cI := cI) (cB := cB) (cZ := cZ) (hc := hc) (ho := ho) (hm := hm) (hp := hp) (hh := hh) (ht := ht) (n := n) (fo := fo) (ss := ss) (tr := tr) (hom := hom) (T := T) (t := t) (on := on) (by first | assumption | exact Nat.zero_le _ | omega) (by first | assumption | exact Nat.zero_le _ | omega) (by first | assumption | exact Nat.zero_le _ | omega)) (cwV 1 hts gX1_leastPush_X1_lookFarAhead rfl rfl rfl (by decide +kernel) ⟨Nat.le_of_ble_eq_true rfl, Nat.le_of_ble_eq_true rfl⟩) hK hP hD hS hA [0, 1, 2, 3, 4, 5] rfl (by decide) 0 1 rfl rfl rfl rfl hl.1 rfl (Nat.le_of_ble_eq_true rfl) dX1_leastPush_13 ⟨Nat.zero_le _, Nat.zero_le _⟩ (fun _ => rfl) (fun _ => rfl) (fun _ => rfl) (fun g H locs hr_13 hP hD hS => ?_)
    have hP : va_P D vwCl [(hc, .inr (1, [.ref hm, .ref ho])), (hm, .inr (3, [.ref hp, .ref hh])), (hp, .inr (4, [.ref ht, .int (nI n), .int fo, .int ss])), (ht, .inl (cI, 35, .inl tr)), (hh, .inl (cI, 128, .inl hom)), (ho, .inl (cI, 128, .inl g))] H := hP
    have hD : va_D A [(hc, .inr (1, [.ref hm, .ref ho])), (hm, .inr (3, [.ref hp, .ref hh])), (hp, .inr (4, [.ref ht, .int (nI n), .int fo, .int ss])), (ht, .inl (cI, 35, .inl tr)), (hh, .inl (cI, 128, .inl hom)), (ho, .inl (cI, 128, .inl g))] := hD
    try dsimp only at hr_13
    refine lv_bipush (v := (-4 : Int32)) hx hb dX1_leastPush_16 (by decide) ?_
    refine lv_istore (lv' := [(4, .int (-4 : Int32)), (0, .ref hc), (1, .int (nI ow)), (2, .int (nI goal)), (3, .int (bI t))]) hx hb dX1_leastPush_18 hl (by decide) rfl (fun ls hl => ?_)
    refine lv_bipush (v := nI 8) hx hb dX1_leastPush_20 (by decide) ?_
    refine lv_istore (lv' := [(5, .int (nI 8)), (4, .int (-4 : Int32)), (0, .ref hc), (1, .int (nI ow)), (2, .int (nI goal)), (3, .int (bI t))]) hx hb dX1_leastPush_22 hl (by decide) rfl (fun ls hl => ?_)
    refine lv_iconst (v := nI 0) hx hb dX1_leastPush_24 (by decide) ?_
    refine lv_istore (lv' := [(6, .int (nI 0)), (5, .int (nI 8)), (4, .int (-4 : Int32)), (0, .ref hc), (1, .int (nI ow)), (2, .int (nI goal)), (3, .int (bI t))]) hx hb dX1_leastPush_25 hl (by decide) rfl (fun ls hl => ?_)
    exact L27 _ 0 g (Nat.zero_le _) (c_5) (hr_13) (Nat.lt_succ_self _) _ _ hP hD hS ls (lv_sub hl [3, 4, 5, 6, 2, 1, 0] rfl)
  · refine lv_bipush (v := (-4 : Int32)) hx hb dX1_leastPush_8 (by decide) ?_
    exact q_mret (S := (Nat → Int32)) (v := (-4 : Int32)) (w1 := fun u => [(hc, .inr (1, [.ref hm, .ref ho])), (hm, .inr (3, [.ref hp, .ref hh])), (hp, .inr (4, [.ref ht, .int (nI n), .int fo, .int ss])), (ht, .inl (cI, 35, .inl tr)), (hh, .inl (cI, 128, .inl hom)), (ho, .inl (cI, 128, .inl u))]) on hx hb hr hlocks (rfl) hP hS dX1_leastPush_10 (by exact ⟨by rw [q_tp, if_neg (by rw [c_5]; decide)], trivial⟩)

set_option maxHeartbeats 4000000 in
set_option maxRecDepth 100000 in
theorem c_X1_seasonOn (l : Launch) {D : va_G} {cI cB cZ : ClassId} {z : Nat} {t : Nat} : Met l yX1_seasonOn wsX1_seasonOn ({ frames := 0, cells := 0, slots := 0, locals := 0 } : Room) (va_Pc [.int (nI z), .int (nI t)] (q_B D (q_tys cI cB cZ) [])) (vp_Si (fun r => r = q_sn z t)) 0 0 (fun _ => False) := by
  refine Met.ofW (cc := cX1_seasonOn) (maxL := 4) (ret := (some .int)) (by decide) rfl ?_
  intro p e s m args below meth c s₁ B hml hv
  obtain ⟨rfl, hP, hK⟩ := hv
  have hx := B.exec
  have hb := B.bytes
  have hr := B.returns
  have hts := atoms_spec (ws := wsX1_seasonOn) B.pre
  have hown : s.vm.findClass RX1 = some m.cls := findClass_of_methodNamed B.named
  have hlocks := B.notSynchronized
  have hP : va_P D vwCl [] s.heap := hP
  have hl := lv_entry ([.int (nI z), .int (nI t)]) (n := 4) (Nat.le_of_ble_eq_true rfl)
  rw [lg_entry_eq]
  generalize (lg_sl ([.int (nI z), .int (nI t)]) ++ List.replicate (4 - (lg_sl ([.int (nI z), .int (nI t)])).length) Slot.unset).toArray = ls at hl ⊢
  have hl : lv_has ls 4 [(0, .int (nI z)), (1, .int (nI t))] := hl
  refine lv_ldc2 (v := (7919 : Int64)) hx hb hown (hts (.constantLong RX1 72 (7919)) (by decide +kernel)) dX1_seasonOn_0 ?_
  refine lv_iload_n hx hb dX1_seasonOn_3 rfl (lv_at hl 0 rfl) ?_
  refine lv_i2l (v := (nI z).toInt64) hx hb dX1_seasonOn_4 (rfl) ?_
  refine q_lmul (v := (7919 : Int64) * ((nI z).toInt64)) hx hb dX1_seasonOn_5 (rfl) ?_
  refine lv_ldc2 (v := (6151 : Int64)) hx hb hown (hts (.constantLong RX1 74 (6151)) (by decide +kernel)) dX1_seasonOn_6 ?_
  refine lv_iload_n hx hb dX1_seasonOn_9 rfl (lv_at hl 1 rfl) ?_
  refine lv_i2l (v := (nI t).toInt64) hx hb dX1_seasonOn_10 (rfl) ?_
  refine q_lmul (v := (6151 : Int64) * ((nI t).toInt64)) hx hb dX1_seasonOn_11 (rfl) ?_
  refine q_ladd (v := ((7919 : Int64) * ((nI z).toInt64)) + ((6151 : Int64) * ((nI t).toInt64))) hx hb dX1_seasonOn_12 (rfl) ?_
  refine lv_lconst (v := (1 : Int64)) hx hb dX1_seasonOn_13 (by decide) ?_
  refine q_ladd (v := q_x z t) hx hb dX1_seasonOn_14 (rfl) ?_
  refine lv_lstore_n (lv' := [(2, .long (q_x z t)), (0, .int (nI z)), (1, .int (nI t))]) hx hb dX1_seasonOn_15 rfl hl (by decide) rfl (fun ls hl => ?_)
  refine lv_lload_n hx hb dX1_seasonOn_16 rfl (lv_at hl 0 rfl) ?_
  refine lv_lload_n hx hb dX1_seasonOn_17 rfl (lv_at hl 0 rfl) ?_
  refine q_lmul (v := (q_x z t) * (q_x z t)) hx hb dX1_seasonOn_18 (rfl) ?_
  refine lv_ldc2 (v := (65521 : Int64)) hx hb hown (hts (.constantLong RX1 76 (65521)) (by decide +kernel)) dX1_seasonOn_19 ?_
  refine q_lrem (v := q_m1 (q_x z t)) hx hb dX1_seasonOn_22 (by decide) (rfl) ?_
  refine lv_ldc2 (v := (100 : Int64)) hx hb hown (hts (.constantLong RX1 78 (100)) (by decide +kernel)) dX1_seasonOn_23 ?_
  refine q_lrem (v := q_m2 (q_m1 (q_x z t))) hx hb dX1_seasonOn_26 (by decide) (rfl) ?_
  refine lv_l2i (v := q_sn z t) hx hb dX1_seasonOn_27 (rfl) ?_
  exact q_zret (v := q_sn z t) hx hb hr hlocks (rfl) (show q_sn z t = q_sn z t from rfl) dX1_seasonOn_28

set_option maxHeartbeats 4000000 in
set_option maxRecDepth 100000 in
theorem c_X1_ownersBehindYear (l : Launch) {D : va_G} {cI cB cZ : ClassId} {hc : Nat} {ho : Nat} {hm : Nat} {hp : Nat} {hh : Nat} {ht : Nat} {n : Nat} {fo : Int32} {ss : Int32} {tr : Nat → Int32} {hom : Nat → Int32} {T : Nat → Nat → Nat} {S : Nat} {z : Nat} {d : Nat} (hT : q_Tr T n tr) (hB : q_Bd T n) (hH : q_Hm T n hom) (hS : S < 2 ^ n) (hd : d ≤ 100) : Met l yX1_ownersBehindYear wsX1_ownersBehindYear ({ frames := 4, cells := 0, slots := 0, locals := 97 } : Room) (va_Pc [.ref hc, .int (nI S), .int (nI z), .int (nI d)] (q_B D (q_tys cI cB cZ) [(hc, .inr (1, [.ref hm, .ref ho])), (hm, .inr (3, [.ref hp, .ref hh])), (hp, .inr (4, [.ref ht, .int (nI n), .int fo, .int ss])), (ht, .inl (cI, 35, .inl tr)), (hh, .inl (cI, 128, .inl hom))])) (vp_Si (fun r => r = nI (pop8 (q_yr T n z S d)))) 0 0 (fun _ => False) := by
  refine Met.ofW (cc := cX1_ownersBehindYear) (maxL := 6) (ret := (some .int)) (by decide) rfl ?_
  intro p e s m args below meth c s₁ B hml hv
  obtain ⟨rfl, hP, hK⟩ := hv
  have hx := B.exec
  have hb := B.bytes
  have hr := B.returns
  have hts := atoms_spec (ws := wsX1_ownersBehindYear) B.pre
  have hown : s.vm.findClass RX1 = some m.cls := findClass_of_methodNamed B.named
  have hlocks := B.notSynchronized
  have hin1 : ∀ w ∈ u_ws RX1 TX1 2, w ∈ wsX1_ownersBehindYear := by decide +kernel
  have hP : va_P D vwCl [(hc, .inr (1, [.ref hm, .ref ho])), (hm, .inr (3, [.ref hp, .ref hh])), (hp, .inr (4, [.ref ht, .int (nI n), .int fo, .int ss])), (ht, .inl (cI, 35, .inl tr)), (hh, .inl (cI, 128, .inl hom))] s.heap := hP
  have hl := lv_entry ([.ref hc, .int (nI S), .int (nI z), .int (nI d)]) (n := 6) (Nat.le_of_ble_eq_true rfl)
  rw [lg_entry_eq]
  generalize (lg_sl ([.ref hc, .int (nI S), .int (nI z), .int (nI d)]) ++ List.replicate (6 - (lg_sl ([.ref hc, .int (nI S), .int (nI z), .int (nI d)])).length) Slot.unset).toArray = ls at hl ⊢
  have hl : lv_has ls 6 [(0, .ref hc), (1, .int (nI S)), (2, .int (nI z)), (3, .int (nI d))] := hl
  have hn7 := hB.1
  have hp2 : 2 ^ n ≤ 128 := q_p2 hB.1
  have L6 : ∀ (fuel : Nat) (k : Nat) (hk : k ≤ d) (hf : d - k < fuel) (ls : Array Slot) (hl : lv_has ls 6 [(0, .ref hc), (1, .int (nI S)), (2, .int (nI z)), (3, .int (nI d)), (4, .int (nI (q_yr T n z S k))), (5, .int (nI k))]), W p l e (headSpec wsX1_ownersBehindYear ({ frames := 4, cells := 0, slots := 0, locals := 97 } : Room)).room s m ([.ref hc, .int (nI S), .int (nI z), .int (nI d)] : List Value).toArray below meth c s.heap [] 0 0 (MQ below (vp_Si (fun r => r = nI (pop8 (q_yr T n z S d)))) ([.ref hc, .int (nI S), .int (nI z), .int (nI d)] : List Value).toArray s 0 0 (fun _ => False)) (F0 m 6 ls []) := by
    intro fuel
    induction fuel with
    | zero =>
      intro k hk hf ls hl
      exact absurd hf (Nat.not_lt_zero _)
    | succ fuel ih6 =>
      intro k hk hf ls hl
      refine lv_iload hx hb dX1_ownersBehindYear_6 (lv_at hl 5 rfl) ?_
      refine lv_iload_n hx hb dX1_ownersBehindYear_8 rfl (lv_at hl 3 rfl) ?_
      refine q_nge (tgt := 36) hx hb dX1_ownersBehindYear_9 (by decide) (by omega) (by omega) (fun c_9 => ?_) (fun c_9 => ?_)
      · refine lv_iload hx hb dX1_ownersBehindYear_36 (lv_at hl 4 rfl) ?_
        refine q_si (As := [.int (nI (q_yr T n z S k))]) (rest := []) ⟨hx, hb, hml, hown, hts⟩ (c_J6_bitCount_0f7a4 l (D := D) (cI := cI) (cB := cB) (cZ := cZ) (k := q_yr T n z S k) (by have := q_yr_lt (T := T) (z := z) hS k; omega)) (va_cwS 1 hts gX1_ownersBehindYear_J6_bitCount_0f7a4 rfl rfl rfl (by decide +kernel) ⟨Nat.le_of_ble_eq_true rfl, Nat.le_of_ble_eq_true rfl⟩) hK hP [] rfl rfl hl.1 rfl (Nat.le_of_ble_eq_true rfl) dX1_ownersBehindYear_38 ⟨Nat.zero_le _, Nat.zero_le _⟩ (fun r_38 hr_38 => ?_)
        have hr_38 : nI (pop8 (q_yr T n z S k)) = r_38 := (show r_38 = nI (pop8 (q_yr T n z S k)) from hr_38).symm
        subst hr_38
        exact q_zret (v := nI (pop8 (q_yr T n z S k))) hx hb hr hlocks (rfl) (show nI (pop8 (q_yr T n z S k)) = nI (pop8 (q_yr T n z S d)) from by rw [show k = d from by omega]) dX1_ownersBehindYear_41
      · refine lv_aload_n hx hb dX1_ownersBehindYear_12 rfl (lv_at hl 0 rfl) ?_
        refine q_get (ci := 1) (CC := RX1) (T := TX1) (N := 2) (v := .ref hm) hx hb hts hin1 hown hK hP 0 rfl rfl 0 (by decide) (hts (.fieldLink RX1 15 "DearAsMany$Course" "market" "LDearAsMany$Market;") (by decide +kernel)) rfl rfl dX1_ownersBehindYear_13 ?_
        refine lv_iload hx hb dX1_ownersBehindYear_16 (lv_at hl 4 rfl) ?_
        refine lv_iconst (v := bI true) hx hb dX1_ownersBehindYear_18 (by decide) ?_
        refine lv_iload_n hx hb dX1_ownersBehindYear_19 rfl (lv_at hl 2 rfl) ?_
        refine lv_iload hx hb dX1_ownersBehindYear_20 (lv_at hl 5 rfl) ?_
        refine q_si (As := [.int (nI z), .int (nI k)]) (rest := [.int (bI true), .int (nI (q_yr T n z S k)), .ref hm]) ⟨hx, hb, hml, hown, hts⟩ (c_X1_seasonOn l (D := D) (cI := cI) (cB := cB) (cZ := cZ) (z := z) (t := k) ) (va_cwS 2 hts gX1_ownersBehindYear_X1_seasonOn rfl rfl rfl (by decide +kernel) ⟨Nat.le_of_ble_eq_true rfl, Nat.le_of_ble_eq_true rfl⟩) hK hP [] rfl rfl hl.1 rfl (Nat.le_of_ble_eq_true rfl) dX1_ownersBehindYear_22 ⟨Nat.zero_le _, Nat.zero_le _⟩ (fun r_22 hr_22 => ?_)
        have hr_22 : q_sn z k = r_22 := (show r_22 = q_sn z k from hr_22).symm
        subst hr_22
        refine q_vi (As := [.int (nI (q_yr T n z S k)), .int (bI true), .int (q_sn z k)]) (rest := []) ⟨hx, hb, hml, hown, hts⟩ (c_X3_nextOwners l (D := D) (cI := cI) (cB := cB) (cZ := cZ) (hm := hm) (hp := hp) (hh := hh) (ht := ht) (n := n) (fo := fo) (ss := ss) (tr := tr) (hom := hom) (T := T) (S := q_yr T n z S k) (t := true) (se := q_sn z k) (by first | assumption | exact Nat.zero_le _ | omega) (by first | assumption | exact Nat.zero_le _ | omega) (by first | assumption | exact Nat.zero_le _ | omega) (q_yr_lt hS _)) (cwV 3 hts gX1_ownersBehindYear_X3_nextOwners rfl rfl rfl (by decide +kernel) ⟨Nat.le_of_ble_eq_true rfl, Nat.le_of_ble_eq_true rfl⟩) hK hP [1, 2, 3, 4] rfl 1 3 rfl rfl rfl rfl hl.1 rfl (Nat.le_of_ble_eq_true rfl) dX1_ownersBehindYear_25 ⟨Nat.zero_le _, Nat.zero_le _⟩ (fun r_25 hr_25 => ?_)
        have hr_25 : nI (q_rd T n (q_sn z k) true (q_yr T n z S k)) = r_25 := (show r_25 = nI (q_rd T n (q_sn z k) true (q_yr T n z S k)) from hr_25).symm
        subst hr_25
        refine lv_istore (lv' := [(4, .int (nI (q_rd T n (q_sn z k) true (q_yr T n z S k)))), (0, .ref hc), (1, .int (nI S)), (2, .int (nI z)), (3, .int (nI d)), (5, .int (nI k))]) hx hb dX1_ownersBehindYear_28 hl (by decide) rfl (fun ls hl => ?_)
        refine lv_iinc (v := nI (k + 1)) (lv' := [(5, .int (nI (k + 1))), (4, .int (nI (q_rd T n (q_sn z k) true (q_yr T n z S k)))), (0, .ref hc), (1, .int (nI S)), (2, .int (nI z)), (3, .int (nI d))]) hx hb dX1_ownersBehindYear_30 hl (k := 5) rfl (nI_add _ 1) (by decide) rfl (fun ls hl => ?_)
        refine lv_goto (tgt := 6) hx hb dX1_ownersBehindYear_33 (by decide) ?_
        exact ih6 (k + 1) (by first | assumption | exact Nat.zero_le _ | omega) (by omega) ls (lv_sub hl [2, 3, 4, 5, 1, 0] rfl)
  refine lv_iload_n hx hb dX1_ownersBehindYear_0 rfl (lv_at hl 1 rfl) ?_
  refine lv_istore (lv' := [(4, .int (nI S)), (0, .ref hc), (1, .int (nI S)), (2, .int (nI z)), (3, .int (nI d))]) hx hb dX1_ownersBehindYear_1 hl (by decide) rfl (fun ls hl => ?_)
  refine lv_iconst (v := nI 0) hx hb dX1_ownersBehindYear_3 (by decide) ?_
  refine lv_istore (lv' := [(5, .int (nI 0)), (4, .int (nI S)), (0, .ref hc), (1, .int (nI S)), (2, .int (nI z)), (3, .int (nI d))]) hx hb dX1_ownersBehindYear_4 hl (by decide) rfl (fun ls hl => ?_)
  exact L6 _ 0 (by first | assumption | exact Nat.zero_le _ | omega) (Nat.lt_succ_self _) ls (lv_sub hl [2, 3, 4, 5, 1, 0] rfl)

set_option maxHeartbeats 4000000 in
set_option maxRecDepth 100000 in
theorem c_X1_bestDay (l : Launch) {D : va_G} {cI cB cZ : ClassId} {hc : Nat} {ho : Nat} {hm : Nat} {hp : Nat} {hh : Nat} {ht : Nat} {n : Nat} {fo : Int32} {ss : Int32} {tr : Nat → Int32} {hom : Nat → Int32} {T : Nat → Nat → Nat} {S : Nat} {z : Nat} {d : Nat} (hT : q_Tr T n tr) (hB : q_Bd T n) (hH : q_Hm T n hom) (hS : S < 2 ^ n) (hd : d ≤ 100) : Met l yX1_bestDay wsX1_bestDay ({ frames := 4, cells := 0, slots := 0, locals := 97 } : Room) (va_Pc [.ref hc, .int (nI S), .int (nI z), .int (nI d)] (q_B D (q_tys cI cB cZ) [(hc, .inr (1, [.ref hm, .ref ho])), (hm, .inr (3, [.ref hp, .ref hh])), (hp, .inr (4, [.ref ht, .int (nI n), .int fo, .int ss])), (ht, .inl (cI, 35, .inl tr)), (hh, .inl (cI, 128, .inl hom))])) (vp_Si (fun r => r = nI ((q_by (fun j => pop8 (q_yr T n z S j)) d).1))) 0 0 (fun _ => False) := by
  refine Met.ofW (cc := cX1_bestDay) (maxL := 9) (ret := (some .int)) (by decide) rfl ?_
  intro p e s m args below meth c s₁ B hml hv
  obtain ⟨rfl, hP, hK⟩ := hv
  have hx := B.exec
  have hb := B.bytes
  have hr := B.returns
  have hts := atoms_spec (ws := wsX1_bestDay) B.pre
  have hown : s.vm.findClass RX1 = some m.cls := findClass_of_methodNamed B.named
  have hlocks := B.notSynchronized
  have hin1 : ∀ w ∈ u_ws RX1 TX1 2, w ∈ wsX1_bestDay := by decide +kernel
  have hP : va_P D vwCl [(hc, .inr (1, [.ref hm, .ref ho])), (hm, .inr (3, [.ref hp, .ref hh])), (hp, .inr (4, [.ref ht, .int (nI n), .int fo, .int ss])), (ht, .inl (cI, 35, .inl tr)), (hh, .inl (cI, 128, .inl hom))] s.heap := hP
  have hl := lv_entry ([.ref hc, .int (nI S), .int (nI z), .int (nI d)]) (n := 9) (Nat.le_of_ble_eq_true rfl)
  rw [lg_entry_eq]
  generalize (lg_sl ([.ref hc, .int (nI S), .int (nI z), .int (nI d)]) ++ List.replicate (9 - (lg_sl ([.ref hc, .int (nI S), .int (nI z), .int (nI d)])).length) Slot.unset).toArray = ls at hl ⊢
  have hl : lv_has ls 9 [(0, .ref hc), (1, .int (nI S)), (2, .int (nI z)), (3, .int (nI d))] := hl
  have hn7 := hB.1
  have hp2 : 2 ^ n ≤ 128 := q_p2 hB.1
  have L12 : ∀ (fuel : Nat) (k : Nat) (hk : k ≤ d) (hf : d - k < fuel) (ls : Array Slot) (hl : lv_has ls 9 [(0, .ref hc), (1, .int (nI S)), (2, .int (nI z)), (3, .int (nI d)), (4, .int (nI (q_yr T n z S k))), (5, .int (nI ((q_by (fun j => pop8 (q_yr T n z S j)) k).1))), (6, .int ((q_by (fun j => pop8 (q_yr T n z S j)) k).2)), (7, .int (nI k))]), W p l e (headSpec wsX1_bestDay ({ frames := 4, cells := 0, slots := 0, locals := 97 } : Room)).room s m ([.ref hc, .int (nI S), .int (nI z), .int (nI d)] : List Value).toArray below meth c s.heap [] 0 0 (MQ below (vp_Si (fun r => r = nI ((q_by (fun j => pop8 (q_yr T n z S j)) d).1))) ([.ref hc, .int (nI S), .int (nI z), .int (nI d)] : List Value).toArray s 0 0 (fun _ => False)) (F0 m 12 ls []) := by
    intro fuel
    induction fuel with
    | zero =>
      intro k hk hf ls hl
      exact absurd hf (Nat.not_lt_zero _)
    | succ fuel ih12 =>
      intro k hk hf ls hl
      refine lv_iload hx hb dX1_bestDay_12 (lv_at hl 7 rfl) ?_
      refine lv_iload_n hx hb dX1_bestDay_14 rfl (lv_at hl 3 rfl) ?_
      refine q_nge (tgt := 64) hx hb dX1_bestDay_15 (by decide) (by omega) (by omega) (fun c_15 => ?_) (fun c_15 => ?_)
      · refine lv_iload hx hb dX1_bestDay_64 (lv_at hl 5 rfl) ?_
        exact q_zret (v := nI ((q_by (fun j => pop8 (q_yr T n z S j)) k).1)) hx hb hr hlocks (rfl) (show nI ((q_by (fun j => pop8 (q_yr T n z S j)) k).1) = nI ((q_by (fun j => pop8 (q_yr T n z S j)) d).1) from by rw [show k = d from by omega]) dX1_bestDay_66
      · refine lv_aload_n hx hb dX1_bestDay_18 rfl (lv_at hl 0 rfl) ?_
        refine q_get (ci := 1) (CC := RX1) (T := TX1) (N := 2) (v := .ref hm) hx hb hts hin1 hown hK hP 0 rfl rfl 0 (by decide) (hts (.fieldLink RX1 15 "DearAsMany$Course" "market" "LDearAsMany$Market;") (by decide +kernel)) rfl rfl dX1_bestDay_19 ?_
        refine lv_iload hx hb dX1_bestDay_22 (lv_at hl 4 rfl) ?_
        refine lv_iconst (v := bI true) hx hb dX1_bestDay_24 (by decide) ?_
        refine lv_iload_n hx hb dX1_bestDay_25 rfl (lv_at hl 2 rfl) ?_
        refine lv_iload hx hb dX1_bestDay_26 (lv_at hl 7 rfl) ?_
        refine q_si (As := [.int (nI z), .int (nI k)]) (rest := [.int (bI true), .int (nI (q_yr T n z S k)), .ref hm]) ⟨hx, hb, hml, hown, hts⟩ (c_X1_seasonOn l (D := D) (cI := cI) (cB := cB) (cZ := cZ) (z := z) (t := k) ) (va_cwS 2 hts gX1_bestDay_X1_seasonOn rfl rfl rfl (by decide +kernel) ⟨Nat.le_of_ble_eq_true rfl, Nat.le_of_ble_eq_true rfl⟩) hK hP [] rfl rfl hl.1 rfl (Nat.le_of_ble_eq_true rfl) dX1_bestDay_28 ⟨Nat.zero_le _, Nat.zero_le _⟩ (fun r_28 hr_28 => ?_)
        have hr_28 : q_sn z k = r_28 := (show r_28 = q_sn z k from hr_28).symm
        subst hr_28
        refine q_vi (As := [.int (nI (q_yr T n z S k)), .int (bI true), .int (q_sn z k)]) (rest := []) ⟨hx, hb, hml, hown, hts⟩ (c_X3_nextOwners l (D := D) (cI := cI) (cB := cB) (cZ := cZ) (hm := hm) (hp := hp) (hh := hh) (ht := ht) (n := n) (fo := fo) (ss := ss) (tr := tr) (hom := hom) (T := T) (S := q_yr T n z S k) (t := true) (se := q_sn z k) (by first | assumption | exact Nat.zero_le _ | omega) (by first | assumption | exact Nat.zero_le _ | omega) (by first | assumption | exact Nat.zero_le _ | omega) (q_yr_lt hS _)) (cwV 3 hts gX1_bestDay_X3_nextOwners rfl rfl rfl (by decide +kernel) ⟨Nat.le_of_ble_eq_true rfl, Nat.le_of_ble_eq_true rfl⟩) hK hP [1, 2, 3, 4] rfl 1 3 rfl rfl rfl rfl hl.1 rfl (Nat.le_of_ble_eq_true rfl) dX1_bestDay_31 ⟨Nat.zero_le _, Nat.zero_le _⟩ (fun r_31 hr_31 => ?_)
        have hr_31 : nI (q_rd T n (q_sn z k) true (q_yr T n z S k)) = r_31 := (show r_31 = nI (q_rd T n (q_sn z k) true (q_yr T n z S k)) from hr_31).symm
        subst hr_31
        refine lv_istore (lv' := [(4, .int (nI (q_rd T n (q_sn z k) true (q_yr T n z S k)))), (0, .ref hc), (1, .int (nI S)), (2, .int (nI z)), (3, .int (nI d)), (5, .int (nI ((q_by (fun j => pop8 (q_yr T n z S j)) k).1))), (6, .int ((q_by (fun j => pop8 (q_yr T n z S j)) k).2)), (7, .int (nI k))]) hx hb dX1_bestDay_34 hl (by decide) rfl (fun ls hl => ?_)
        refine lv_iload hx hb dX1_bestDay_36 (lv_at hl 0 rfl) ?_
        refine q_si (As := [.int (nI (q_rd T n (q_sn z k) true (q_yr T n z S k)))]) (rest := []) ⟨hx, hb, hml, hown, hts⟩ (c_J6_bitCount_0f7a4 l (D := D) (cI := cI) (cB := cB) (cZ := cZ) (k := q_rd T n (q_sn z k) true (q_yr T n z S k)) (by have := q_yr_lt (T := T) (z := z) hS (k + 1); exact Nat.lt_of_lt_of_le this (by omega))) (va_cwS 1 hts gX1_bestDay_J6_bitCount_0f7a4 rfl rfl rfl (by decide +kernel) ⟨Nat.le_of_ble_eq_true rfl, Nat.le_of_ble_eq_true rfl⟩) hK hP [] rfl rfl hl.1 rfl (Nat.le_of_ble_eq_true rfl) dX1_bestDay_38 ⟨Nat.zero_le _, Nat.zero_le _⟩ (fun r_38 hr_38 => ?_)
        have hr_38 : nI (pop8 (q_rd T n (q_sn z k) true (q_yr T n z S k))) = r_38 := (show r_38 = nI (pop8 (q_rd T n (q_sn z k) true (q_yr T n z S k))) from hr_38).symm
        subst hr_38
        refine lv_istore (lv' := [(8, .int (nI (pop8 (q_rd T n (q_sn z k) true (q_yr T n z S k))))), (4, .int (nI (q_rd T n (q_sn z k) true (q_yr T n z S k)))), (0, .ref hc), (1, .int (nI S)), (2, .int (nI z)), (3, .int (nI d)), (5, .int (nI ((q_by (fun j => pop8 (q_yr T n z S j)) k).1))), (6, .int ((q_by (fun j => pop8 (q_yr T n z S j)) k).2)), (7, .int (nI k))]) hx hb dX1_bestDay_41 hl (by decide) rfl (fun ls hl => ?_)
        refine lv_iload hx hb dX1_bestDay_43 (lv_at hl 0 rfl) ?_
        refine lv_iload hx hb dX1_bestDay_45 (lv_at hl 7 rfl) ?_
        refine lv_icmp_le (x := nI (pop8 (q_rd T n (q_sn z k) true (q_yr T n z S k)))) (y := (q_by (fun j => pop8 (q_yr T n z S j)) k).2) (tgt := 58) hx hb dX1_bestDay_47 (by decide) (fun c_47 => ?_) (fun c_47 => ?_)
        · refine lv_iinc (v := nI (k + 1)) (lv' := [(7, .int (nI (k + 1))), (8, .int (nI (pop8 (q_rd T n (q_sn z k) true (q_yr T n z S k))))), (4, .int (nI (q_rd T n (q_sn z k) true (q_yr T n z S k)))), (0, .ref hc), (1, .int (nI S)), (2, .int (nI z)), (3, .int (nI d)), (5, .int (nI ((q_by (fun j => pop8 (q_yr T n z S j)) k).1))), (6, .int ((q_by (fun j => pop8 (q_yr T n z S j)) k).2))]) hx hb dX1_bestDay_58 hl (k := 8) rfl (nI_add _ 1) (by decide) rfl (fun ls hl => ?_)
          refine lv_goto (tgt := 12) hx hb dX1_bestDay_61 (by decide) ?_
          have hl : lv_has ls 9 [(7, .int (nI (k + 1))), (8, .int (nI (pop8 (q_rd T n (q_sn z k) true (q_yr T n z S k))))), (4, .int (nI (q_rd T n (q_sn z k) true (q_yr T n z S k)))), (0, .ref hc), (1, .int (nI S)), (2, .int (nI z)), (3, .int (nI d)), (5, .int (nI ((q_by (fun j => pop8 (q_yr T n z S j)) (k + 1)).1))), (6, .int ((q_by (fun j => pop8 (q_yr T n z S j)) k).2))] := by rw [← show nI ((q_by (fun j => pop8 (q_yr T n z S j)) k).1) = nI ((q_by (fun j => pop8 (q_yr T n z S j)) (k + 1)).1) from by rw [q_byF (g := (fun j => pop8 (q_yr T n z S j))) (d := k) (Int32.not_lt.mpr c_47)]]; exact hl
          have hl : lv_has ls 9 [(7, .int (nI (k + 1))), (8, .int (nI (pop8 (q_rd T n (q_sn z k) true (q_yr T n z S k))))), (4, .int (nI (q_rd T n (q_sn z k) true (q_yr T n z S k)))), (0, .ref hc), (1, .int (nI S)), (2, .int (nI z)), (3, .int (nI d)), (5, .int (nI ((q_by (fun j => pop8 (q_yr T n z S j)) (k + 1)).1))), (6, .int ((q_by (fun j => pop8 (q_yr T n z S j)) (k + 1)).2))] := by rw [← show (q_by (fun j => pop8 (q_yr T n z S j)) k).2 = (q_by (fun j => pop8 (q_yr T n z S j)) (k + 1)).2 from by rw [q_byF (g := (fun j => pop8 (q_yr T n z S j))) (d := k) (Int32.not_lt.mpr c_47)]]; exact hl
          exact ih12 (k + 1) (by first | assumption | exact Nat.zero_le _ | omega) (by omega) ls (lv_sub hl [3, 4, 5, 6, 2, 7, 8, 0] rfl)
        · refine lv_iload hx hb dX1_bestDay_50 (lv_at hl 0 rfl) ?_
          refine lv_istore (lv' := [(6, .int (nI (pop8 (q_rd T n (q_sn z k) true (q_yr T n z S k))))), (8, .int (nI (pop8 (q_rd T n (q_sn z k) true (q_yr T n z S k))))), (4, .int (nI (q_rd T n (q_sn z k) true (q_yr T n z S k)))), (0, .ref hc), (1, .int (nI S)), (2, .int (nI z)), (3, .int (nI d)), (5, .int (nI ((q_by (fun j => pop8 (q_yr T n z S j)) k).1))), (7, .int (nI k))]) hx hb dX1_bestDay_52 hl (by decide) rfl (fun ls hl => ?_)
          refine lv_iload hx hb dX1_bestDay_54 (lv_at hl 8 rfl) ?_
          refine lv_istore (lv' := [(5, .int (nI k)), (6, .int (nI (pop8 (q_rd T n (q_sn z k) true (q_yr T n z S k))))), (8, .int (nI (pop8 (q_rd T n (q_sn z k) true (q_yr T n z S k))))), (4, .int (nI (q_rd T n (q_sn z k) true (q_yr T n z S k)))), (0, .ref hc), (1, .int (nI S)), (2, .int (nI z)), (3, .int (nI d)), (7, .int (nI k))]) hx hb dX1_bestDay_56 hl (by decide) rfl (fun ls hl => ?_)
          refine lv_iinc (v := nI (k + 1)) (lv' := [(7, .int (nI (k + 1))), (5, .int (nI k)), (6, .int (nI (pop8 (q_rd T n (q_sn z k) true (q_yr T n z S k))))), (8, .int (nI (pop8 (q_rd T n (q_sn z k) true (q_yr T n z S k))))), (4, .int (nI (q_rd T n (q_sn z k) true (q_yr T n z S k)))), (0, .ref hc), (1, .int (nI S)), (2, .int (nI z)), (3, .int (nI d))]) hx hb dX1_bestDay_58 hl (k := 8) rfl (nI_add _ 1) (by decide) rfl (fun ls hl => ?_)
          refine lv_goto (tgt := 12) hx hb dX1_bestDay_61 (by decide) ?_
          have hl : lv_has ls 9 [(7, .int (nI (k + 1))), (5, .int (nI ((q_by (fun j => pop8 (q_yr T n z S j)) (k + 1)).1))), (6, .int (nI (pop8 (q_rd T n (q_sn z k) true (q_yr T n z S k))))), (8, .int (nI (pop8 (q_rd T n (q_sn z k) true (q_yr T n z S k))))), (4, .int (nI (q_rd T n (q_sn z k) true (q_yr T n z S k)))), (0, .ref hc), (1, .int (nI S)), (2, .int (nI z)), (3, .int (nI d))] := by rw [← show nI k = nI ((q_by (fun j => pop8 (q_yr T n z S j)) (k + 1)).1) from by rw [q_byT (g := (fun j => pop8 (q_yr T n z S j))) (d := k) (Int32.not_le.mp c_47)]]; exact hl
          have hl : lv_has ls 9 [(7, .int (nI (k + 1))), (5, .int (nI ((q_by (fun j => pop8 (q_yr T n z S j)) (k + 1)).1))), (6, .int ((q_by (fun j => pop8 (q_yr T n z S j)) (k + 1)).2)), (8, .int (nI (pop8 (q_rd T n (q_sn z k) true (q_yr T n z S k))))), (4, .int (nI (q_rd T n (q_sn z k) true (q_yr T n z S k)))), (0, .ref hc), (1, .int (nI S)), (2, .int (nI z)), (3, .int (nI d))] := by rw [← show nI (pop8 (q_rd T n (q_sn z k) true (q_yr T n z S k))) = (q_by (fun j => pop8 (q_yr T n z S j)) (k + 1)).2 from by rw [q_byT (g := (fun j => pop8 (q_yr T n z S j))) (d := k) (Int32.not_le.mp c_47)]; rfl]; exact hl
          exact ih12 (k + 1) (by first | assumption | exact Nat.zero_le _ | omega) (by omega) ls (lv_sub hl [5, 6, 7, 8, 4, 1, 2, 0] rfl)
  refine lv_iload_n hx hb dX1_bestDay_0 rfl (lv_at hl 1 rfl) ?_
  refine lv_istore (lv' := [(4, .int (nI S)), (0, .ref hc), (1, .int (nI S)), (2, .int (nI z)), (3, .int (nI d))]) hx hb dX1_bestDay_1 hl (by decide) rfl (fun ls hl => ?_)
  refine lv_iconst (v := nI 0) hx hb dX1_bestDay_3 (by decide) ?_
  refine lv_istore (lv' := [(5, .int (nI 0)), (4, .int (nI S)), (0, .ref hc), (1, .int (nI S)), (2, .int (nI z)), (3, .int (nI d))]) hx hb dX1_bestDay_4 hl (by decide) rfl (fun ls hl => ?_)
  refine lv_iconst (v := (-1 : Int32)) hx hb dX1_bestDay_6 (by decide) ?_
  refine lv_istore (lv' := [(6, .int (-1 : Int32)), (5, .int (nI 0)), (4, .int (nI S)), (0, .ref hc), (1, .int (nI S)), (2, .int (nI z)), (3, .int (nI d))]) hx hb dX1_bestDay_7 hl (by decide) rfl (fun ls hl => ?_)
  refine lv_iconst (v := nI 0) hx hb dX1_bestDay_9 (by decide) ?_
  refine lv_istore (lv' := [(7, .int (nI 0)), (6, .int (-1 : Int32)), (5, .int (nI 0)), (4, .int (nI S)), (0, .ref hc), (1, .int (nI S)), (2, .int (nI z)), (3, .int (nI d))]) hx hb dX1_bestDay_10 hl (by decide) rfl (fun ls hl => ?_)
  exact L12 _ 0 (by first | assumption | exact Nat.zero_le _ | omega) (Nat.lt_succ_self _) ls (lv_sub hl [4, 5, 6, 7, 3, 2, 1, 0] rfl)
