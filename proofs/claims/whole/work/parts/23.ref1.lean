set_option maxHeartbeats 4000000 in
set_option maxRecDepth 100000 in
theorem c_X10_in (l : Launch) {D : va_G} {cI cB cZ : ClassId} {a1 : Int64} {b1 : Int64} {c1 : Int64} : Met l yX10_in wsX10_in ({ frames := 0, cells := 0, slots := 0, locals := 0 } : Room) (va_Pc [.long a1, .long b1, .long c1] (q_B D (q_tys cI cB cZ) [])) (vp_Si (fun r => r = bI (q_inb a1 b1 c1))) 0 0 (fun _ => False) := by
  refine Met.ofW (cc := cX10_in) (maxL := 6) (ret := (some .boolean)) (by decide) rfl ?_
  intro p e s m args below meth c s₁ B hml hv
  obtain ⟨rfl, hP, hK⟩ := hv
  have hx := B.exec
  have hb := B.bytes
  have hr := B.returns
  have hts := atoms_spec (ws := wsX10_in) B.pre
  have hown : s.vm.findClass RX10 = some m.cls := findClass_of_methodNamed B.named
  have hlocks := B.notSynchronized
  have hP : va_P D vwCl [] s.heap := hP
  have hl := lv_entry ([.long a1, .long b1, .long c1]) (n := 6) (Nat.le_of_ble_eq_true rfl)
  rw [lg_entry_eq]
  generalize (lg_sl ([.long a1, .long b1, .long c1]) ++ List.replicate (6 - (lg_sl ([.long a1, .long b1, .long c1])).length) Slot.unset).toArray = ls at hl ⊢
  have hl : lv_has ls 6 [(0, .long a1), (2, .long b1), (4, .long c1)] := hl
  refine lv_lload_n hx hb dX10_in_0 rfl (lv_at hl 0 rfl) ?_
  refine lv_lload_n hx hb dX10_in_1 rfl (lv_at hl 1 rfl) ?_
  refine W.lcmp hx hb dX10_in_2 ?_
  refine lv_if_lt (x := lg_cmp a1 b1) (tgt := 17) hx hb dX10_in_3 (by decide) (fun c_3 => ?_) (fun c_3 => ?_)
  · refine lv_iconst (v := nI 0) hx hb dX10_in_17 (by decide) ?_
    exact q_zret (v := nI 0) hx hb hr hlocks (q_nar0) (show nI 0 = bI (q_inb a1 b1 c1) from by rw [q_inb1 c_3]; rfl) dX10_in_18
  · refine lv_lload_n hx hb dX10_in_6 rfl (lv_at hl 0 rfl) ?_
    refine lv_lload hx hb dX10_in_7 (lv_at hl 2 rfl) ?_
    refine W.lcmp hx hb dX10_in_9 ?_
    refine lv_if_gt (x := lg_cmp a1 c1) (tgt := 17) hx hb dX10_in_10 (by decide) (fun c_10 => ?_) (fun c_10 => ?_)
    · refine lv_iconst (v := nI 0) hx hb dX10_in_17 (by decide) ?_
      exact q_zret (v := nI 0) hx hb hr hlocks (q_nar0) (show nI 0 = bI (q_inb a1 b1 c1) from by rw [q_inb2 c_10]; rfl) dX10_in_18
    · refine lv_iconst (v := nI 1) hx hb dX10_in_13 (by decide) ?_
      refine lv_goto (tgt := 18) hx hb dX10_in_14 (by decide) ?_
      exact q_zret (v := nI 1) hx hb hr hlocks (q_nar1) (show nI 1 = bI (q_inb a1 b1 c1) from by rw [q_inb3 c_3 c_10]; rfl) dX10_in_18

set_option maxHeartbeats 4000000 in
set_option maxRecDepth 100000 in
theorem c_X10_has (l : Launch) {D : va_G} {cI cB cZ : ClassId} {S : Nat} {i : Nat} (hi : i < 8) (hS : S < 128) : Met l yX10_has wsX10_has ({ frames := 0, cells := 0, slots := 0, locals := 0 } : Room) (va_Pc [.int (nI S), .int (nI i)] (q_B D (q_tys cI cB cZ) [])) (vp_Si (fun r => r = bI (S.testBit i))) 0 0 (fun _ => False) := by
  refine Met.ofW (cc := cX10_has) (maxL := 2) (ret := (some .boolean)) (by decide) rfl ?_
  intro p e s m args below meth c s₁ B hml hv
  obtain ⟨rfl, hP, hK⟩ := hv
  have hx := B.exec
  have hb := B.bytes
  have hr := B.returns
  have hts := atoms_spec (ws := wsX10_has) B.pre
  have hown : s.vm.findClass RX10 = some m.cls := findClass_of_methodNamed B.named
  have hlocks := B.notSynchronized
  have hP : va_P D vwCl [] s.heap := hP
  have hl := lv_entry ([.int (nI S), .int (nI i)]) (n := 2) (Nat.le_of_ble_eq_true rfl)
  rw [lg_entry_eq]
  generalize (lg_sl ([.int (nI S), .int (nI i)]) ++ List.replicate (2 - (lg_sl ([.int (nI S), .int (nI i)])).length) Slot.unset).toArray = ls at hl ⊢
  have hl : lv_has ls 2 [(0, .int (nI S)), (1, .int (nI i))] := hl
  refine lv_iload_n hx hb dX10_has_0 rfl (lv_at hl 0 rfl) ?_
  refine lv_iload_n hx hb dX10_has_1 rfl (lv_at hl 1 rfl) ?_
  refine q_ishr (v := (nI S) >>> ((nI i) &&& 31)) hx hb dX10_has_2 (rfl) ?_
  refine lv_iconst (v := nI 1) hx hb dX10_has_3 (by decide) ?_
  refine q_iand (v := nI ((S.testBit i).toNat)) hx hb dX10_has_4 (q_shr hS hi) ?_
  refine lv_iconst (v := nI 1) hx hb dX10_has_5 (by decide) ?_
  refine q_nne (tgt := 13) hx hb dX10_has_6 (by decide) (by have := q_tn (S.testBit i); omega) (by decide) (fun c_6 => ?_) (fun c_6 => ?_)
  · refine lv_iconst (v := nI 0) hx hb dX10_has_13 (by decide) ?_
    exact q_zret (v := nI 0) hx hb hr hlocks (q_nar0) (show nI 0 = bI (S.testBit i) from by rw [q_tn0 c_6]; rfl) dX10_has_14
  · refine lv_iconst (v := nI 1) hx hb dX10_has_9 (by decide) ?_
    refine lv_goto (tgt := 14) hx hb dX10_has_10 (by decide) ?_
    exact q_zret (v := nI 1) hx hb hr hlocks (q_nar1) (show nI 1 = bI (S.testBit i) from by rw [q_tn1 c_6]; rfl) dX10_has_14

set_option maxHeartbeats 4000000 in
set_option maxRecDepth 100000 in
theorem c_X10_bits (l : Launch) {D : va_G} {cI cB cZ : ClassId} {S : Nat} (hS : S < 256) : Met l yX10_bits wsX10_bits ({ frames := 0, cells := 0, slots := 0, locals := 0 } : Room) (va_Pc [.int (nI S)] (q_B D (q_tys cI cB cZ) [])) (vp_Si (fun r => r = nI (pop8 S))) 0 0 (fun _ => False) := by
  refine Met.ofW (cc := cX10_bits) (maxL := 3) (ret := (some .int)) (by decide) rfl ?_
  intro p e s m args below meth c s₁ B hml hv
  obtain ⟨rfl, hP, hK⟩ := hv
  have hx := B.exec
  have hb := B.bytes
  have hr := B.returns
  have hts := atoms_spec (ws := wsX10_bits) B.pre
  have hown : s.vm.findClass RX10 = some m.cls := findClass_of_methodNamed B.named
  have hlocks := B.notSynchronized
  have hP : va_P D vwCl [] s.heap := hP
  have hl := lv_entry ([.int (nI S)]) (n := 3) (Nat.le_of_ble_eq_true rfl)
  rw [lg_entry_eq]
  generalize (lg_sl ([.int (nI S)]) ++ List.replicate (3 - (lg_sl ([.int (nI S)])).length) Slot.unset).toArray = ls at hl ⊢
  have hl : lv_has ls 3 [(0, .int (nI S))] := hl
  have L4 : ∀ (fuel : Nat) (cn : Nat) (x : Nat) (hxl : x < 256) (hE : pop8 x + cn = pop8 S) (hf : pop8 x < fuel) (ls : Array Slot) (hl : lv_has ls 3 [(0, .int (nI S)), (1, .int (nI cn)), (2, .int (nI x))]), W p l e (headSpec wsX10_bits ({ frames := 0, cells := 0, slots := 0, locals := 0 } : Room)).room s m ([.int (nI S)] : List Value).toArray below meth c s.heap [] 0 0 (MQ below (vp_Si (fun r => r = nI (pop8 S))) ([.int (nI S)] : List Value).toArray s 0 0 (fun _ => False)) (F0 m 4 ls []) := by
    intro fuel
    induction fuel with
    | zero =>
      intro cn x hxl hE hf ls hl
      exact absurd hf (Nat.not_lt_zero _)
    | succ fuel ih4 =>
      intro cn x hxl hE hf ls hl
      refine lv_iload_n hx hb dX10_bits_4 rfl (lv_at hl 2 rfl) ?_
      refine q_zeq (tgt := 20) hx hb dX10_bits_5 (by decide) (by omega) (fun c_5 => ?_) (fun c_5 => ?_)
      · refine lv_iload_n hx hb dX10_bits_20 rfl (lv_at hl 1 rfl) ?_
        exact q_zret (v := nI cn) hx hb hr hlocks (rfl) (show nI cn = nI (pop8 S) from by rw [c_5, show pop8 0 = 0 from by decide] at hE; rw [show cn = pop8 S from by omega]) dX10_bits_21
      · have hpd := q_pop_dec hxl c_5
        refine lv_iinc (v := nI (cn + 1)) (lv' := [(1, .int (nI (cn + 1))), (0, .int (nI S)), (2, .int (nI x))]) hx hb dX10_bits_8 hl (k := 1) rfl (nI_add _ 1) (by decide) rfl (fun ls hl => ?_)
        refine lv_iload_n hx hb dX10_bits_11 rfl (lv_at hl 2 rfl) ?_
        refine lv_iload_n hx hb dX10_bits_12 rfl (lv_at hl 2 rfl) ?_
        refine lv_iconst (v := nI 1) hx hb dX10_bits_13 (by decide) ?_
        refine q_isub (v := nI (x - 1)) hx hb dX10_bits_14 (q_sub (by omega)) ?_
        refine q_iand (v := nI (x &&& (x - 1))) hx hb dX10_bits_15 (q_and _ _) ?_
        refine lv_istore_n (lv' := [(2, .int (nI (x &&& (x - 1)))), (1, .int (nI (cn + 1))), (0, .int (nI S))]) hx hb dX10_bits_16 rfl hl (by decide) rfl (fun ls hl => ?_)
        refine lv_goto (tgt := 4) hx hb dX10_bits_17 (by decide) ?_
        exact ih4 (cn + 1) (x &&& (x - 1)) (Nat.lt_of_le_of_lt Nat.and_le_left hxl) (by omega) (by omega) ls (lv_sub hl [2, 1, 0] rfl)
  refine lv_iconst (v := nI 0) hx hb dX10_bits_0 (by decide) ?_
  refine lv_istore_n (lv' := [(1, .int (nI 0)), (0, .int (nI S))]) hx hb dX10_bits_1 rfl hl (by decide) rfl (fun ls hl => ?_)
  refine lv_iload_n hx hb dX10_bits_2 rfl (lv_at hl 1 rfl) ?_
  refine lv_istore_n (lv' := [(2, .int (nI S)), (1, .int (nI 0)), (0, .int (nI S))]) hx hb dX10_bits_3 rfl hl (by decide) rfl (fun ls hl => ?_)
  exact L4 _ 0 S (hS) (rfl) (Nat.lt_succ_self _) ls (lv_sub hl [2, 1, 0] rfl)

set_option maxHeartbeats 4000000 in
set_option maxRecDepth 100000 in
theorem c_X10_isPerson (l : Launch) {D : va_G} {cI cB cZ : ClassId} {ma : Nat} {mt : Nat} {mk : Nat} {mw : Nat} {mc : Nat} {mh : Nat} {mp : Nat} {mb : Nat} {me : Nat} {wp0 : Nat} {wo0 : Nat} {wb0 : Nat} {mr : Nat} {ml : Nat} {tn : Nat} {n : Nat} {ow : Nat} {uc : Nat} {kc : Nat} {sc : Nat} {ss : Int32} {at0 : Int32} {rm0 : Int32} {ro0 : Int32} {rs0 : Int32} {w : Int32} (hn1 : 1 ≤ n) (hn9 : n < 2147483648) : Met l yX10_isPerson wsX10_isPerson ({ frames := 1, cells := 0, slots := 0, locals := 25 } : Room) (va_Pc [.ref ma, .int w] (q_B D (q_tys cI cB cZ) [(ma, .inr (10, [.ref mt, .int (nI tn), .int (nI n), .ref mk, .ref mw, .ref mc, .ref mh, .ref mp, .int (nI ow), .int ss, .int (nI uc), .ref mb, .int (nI kc), .ref me, .int (nI sc), .ref wp0, .ref wo0, .ref wb0, .int at0, .int rm0, .int ro0, .int rs0, .ref mr, .ref ml]))])) (vp_Si (fun r => r = bI ((q_ix n w).isSome))) 0 0 (fun _ => False) := by
  refine Met.ofW (cc := cX10_isPerson) (maxL := 2) (ret := (some .boolean)) (by decide) rfl ?_
  intro p e s m args below meth c s₁ B hml hv
  obtain ⟨rfl, hP, hK⟩ := hv
  have hx := B.exec
  have hb := B.bytes
  have hr := B.returns
  have hts := atoms_spec (ws := wsX10_isPerson) B.pre
  have hown : s.vm.findClass RX10 = some m.cls := findClass_of_methodNamed B.named
  have hlocks := B.notSynchronized
  have hin10 : ∀ w ∈ u_ws RX10 TX10 24, w ∈ wsX10_isPerson := by decide +kernel
  have hP : va_P D vwCl [(ma, .inr (10, [.ref mt, .int (nI tn), .int (nI n), .ref mk, .ref mw, .ref mc, .ref mh, .ref mp, .int (nI ow), .int ss, .int (nI uc), .ref mb, .int (nI kc), .ref me, .int (nI sc), .ref wp0, .ref wo0, .ref wb0, .int at0, .int rm0, .int ro0, .int rs0, .ref mr, .ref ml]))] s.heap := hP
  have hl := lv_entry ([.ref ma, .int w]) (n := 2) (Nat.le_of_ble_eq_true rfl)
  rw [lg_entry_eq]
  generalize (lg_sl ([.ref ma, .int w]) ++ List.replicate (2 - (lg_sl ([.ref ma, .int w])).length) Slot.unset).toArray = ls at hl ⊢
  have hl : lv_has ls 2 [(0, .ref ma), (1, .int w)] := hl
  refine lv_iload_n hx hb dX10_isPerson_0 rfl (lv_at hl 1 rfl) ?_
  refine lv_i2l (v := w.toInt64) hx hb dX10_isPerson_1 (rfl) ?_
  refine lv_lconst (v := (0 : Int64)) hx hb dX10_isPerson_2 (by decide) ?_
  refine lv_aload_n hx hb dX10_isPerson_3 rfl (lv_at hl 0 rfl) ?_
  refine q_get (ci := 10) (CC := RX10) (T := TX10) (N := 24) (v := .int (nI n)) hx hb hts hin10 hown hK hP 0 rfl rfl 2 (by decide) (hts (.fieldLink RX10 13 "DearAsManyModel" "many" "I") (by decide +kernel)) rfl rfl dX10_isPerson_4 ?_
  refine lv_iconst (v := nI 1) hx hb dX10_isPerson_7 (by decide) ?_
  refine q_isub (v := nI (n - 1)) hx hb dX10_isPerson_8 (q_sub hn1) ?_
  refine lv_i2l (v := (nI (n - 1)).toInt64) hx hb dX10_isPerson_9 (rfl) ?_
  refine q_si (As := [.long w.toInt64, .long (0 : Int64), .long ((nI (n - 1)).toInt64)]) (rest := []) ⟨hx, hb, hml, hown, hts⟩ (c_X10_in l (D := D) (cI := cI) (cB := cB) (cZ := cZ) (a1 := w.toInt64) (b1 := (0 : Int64)) (c1 := (nI (n - 1)).toInt64) ) (va_cwS 3 hts gX10_isPerson_X10_in rfl rfl rfl (by decide +kernel) ⟨Nat.le_of_ble_eq_true rfl, Nat.le_of_ble_eq_true rfl⟩) hK hP [] rfl rfl hl.1 rfl (Nat.le_of_ble_eq_true rfl) dX10_isPerson_10 ⟨Nat.zero_le _, Nat.zero_le _⟩ (fun r_10 hr_10 => ?_)
  have hr_10 : bI ((q_ix n w).isSome) = r_10 := (Eq.trans (show r_10 = bI (q_inb w.toInt64 (0 : Int64) ((nI (n - 1)).toInt64)) from hr_10) (q_inP hn1 hn9)).symm
  subst hr_10
  exact q_zret (v := bI ((q_ix n w).isSome)) hx hb hr hlocks (q_narB _) (show bI ((q_ix n w).isSome) = bI ((q_ix n w).isSome) from rfl) dX10_isPerson_13

set_option maxHeartbeats 4000000 in
set_option maxRecDepth 100000 in
theorem c_X10_all (l : Launch) {D : va_G} {cI cB cZ : ClassId} {ma : Nat} {mt : Nat} {mk : Nat} {mw : Nat} {mc : Nat} {mh : Nat} {mp : Nat} {mb : Nat} {me : Nat} {wp0 : Nat} {wo0 : Nat} {wb0 : Nat} {mr : Nat} {ml : Nat} {tn : Nat} {n : Nat} {ow : Nat} {uc : Nat} {kc : Nat} {sc : Nat} {ss : Int32} {at0 : Int32} {rm0 : Int32} {ro0 : Int32} {rs0 : Int32} (hn : n < 31) : Met l yX10_all wsX10_all ({ frames := 0, cells := 0, slots := 0, locals := 0 } : Room) (va_Pc [.ref ma] (q_B D (q_tys cI cB cZ) [(ma, .inr (10, [.ref mt, .int (nI tn), .int (nI n), .ref mk, .ref mw, .ref mc, .ref mh, .ref mp, .int (nI ow), .int ss, .int (nI uc), .ref mb, .int (nI kc), .ref me, .int (nI sc), .ref wp0, .ref wo0, .ref wb0, .int at0, .int rm0, .int ro0, .int rs0, .ref mr, .ref ml]))])) (vp_Si (fun r => r = nI (2 ^ n - 1))) 0 0 (fun _ => False) := by
  refine Met.ofW (cc := cX10_all) (maxL := 1) (ret := (some .int)) (by decide) rfl ?_
  intro p e s m args below meth c s₁ B hml hv
  obtain ⟨rfl, hP, hK⟩ := hv
  have hx := B.exec
  have hb := B.bytes
  have hr := B.returns
  have hts := atoms_spec (ws := wsX10_all) B.pre
  have hown : s.vm.findClass RX10 = some m.cls := findClass_of_methodNamed B.named
  have hlocks := B.notSynchronized
  have hin10 : ∀ w ∈ u_ws RX10 TX10 24, w ∈ wsX10_all := by decide +kernel
  have hP : va_P D vwCl [(ma, .inr (10, [.ref mt, .int (nI tn), .int (nI n), .ref mk, .ref mw, .ref mc, .ref mh, .ref mp, .int (nI ow), .int ss, .int (nI uc), .ref mb, .int (nI kc), .ref me, .int (nI sc), .ref wp0, .ref wo0, .ref wb0, .int at0, .int rm0, .int ro0, .int rs0, .ref mr, .ref ml]))] s.heap := hP
  have hl := lv_entry ([.ref ma]) (n := 1) (Nat.le_of_ble_eq_true rfl)
  rw [lg_entry_eq]
  generalize (lg_sl ([.ref ma]) ++ List.replicate (1 - (lg_sl ([.ref ma])).length) Slot.unset).toArray = ls at hl ⊢
  have hl : lv_has ls 1 [(0, .ref ma)] := hl
  refine lv_iconst (v := nI 1) hx hb dX10_all_0 (by decide) ?_
  refine lv_aload_n hx hb dX10_all_1 rfl (lv_at hl 0 rfl) ?_
  refine q_get (ci := 10) (CC := RX10) (T := TX10) (N := 24) (v := .int (nI n)) hx hb hts hin10 hown hK hP 0 rfl rfl 2 (by decide) (hts (.fieldLink RX10 13 "DearAsManyModel" "many" "I") (by decide +kernel)) rfl rfl dX10_all_2 ?_
  refine q_ishl (v := nI (2 ^ n)) hx hb dX10_all_5 (q_shl1 hn) ?_
  refine lv_iconst (v := nI 1) hx hb dX10_all_6 (by decide) ?_
  refine q_isub (v := nI (2 ^ n - 1)) hx hb dX10_all_7 (q_sub (Nat.two_pow_pos n)) ?_
  exact q_zret (v := nI (2 ^ n - 1)) hx hb hr hlocks (rfl) (show nI (2 ^ n - 1) = nI (2 ^ n - 1) from rfl) dX10_all_8

set_option maxHeartbeats 4000000 in
set_option maxRecDepth 100000 in
theorem c_X10_othersThan (l : Launch) {D : va_G} {cI cB cZ : ClassId} {ma : Nat} {mt : Nat} {mk : Nat} {mw : Nat} {mc : Nat} {mh : Nat} {mp : Nat} {mb : Nat} {me : Nat} {wp0 : Nat} {wo0 : Nat} {wb0 : Nat} {mr : Nat} {ml : Nat} {tn : Nat} {n : Nat} {ow : Nat} {uc : Nat} {kc : Nat} {sc : Nat} {ss : Int32} {at0 : Int32} {rm0 : Int32} {ro0 : Int32} {rs0 : Int32} {mK : Nat → Int32} {mW : Nat → Int32} {mC : Nat → Int32} {mH : Nat → Int32} {T : Nat → Nat → Nat} {own : Nat} {S : Nat} (hMT : q_MT T n mK mW mC mH) (hB : q_Bd T n) (hn1 : 1 ≤ n) (hown9 : own < 8) (hS9 : S < 2 ^ n) : Met l yX10_othersThan wsX10_othersThan ({ frames := 1, cells := 0, slots := 0, locals := 22 } : Room) (va_Pc [.ref ma, .int (nI own), .int (nI S)] (q_B D (q_tys cI cB cZ) [(ma, .inr (10, [.ref mt, .int (nI tn), .int (nI n), .ref mk, .ref mw, .ref mc, .ref mh, .ref mp, .int (nI ow), .int ss, .int (nI uc), .ref mb, .int (nI kc), .ref me, .int (nI sc), .ref wp0, .ref wo0, .ref wb0, .int at0, .int rm0, .int ro0, .int rs0, .ref mr, .ref ml])), (mk, .inl (cI, 7, .inl mK)), (mw, .inl (cI, 7, .inl mW)), (mc, .inl (cI, 7, .inl mC)), (mh, .inl (cI, 7, .inl mH))])) (vp_Si (fun r => r = nI (pop8 (q_wo (q_hm T S n) own)))) 0 0 (fun _ => False) := by
  refine Met.ofW (cc := cX10_othersThan) (maxL := 5) (ret := (some .int)) (by decide) rfl ?_
  intro p e s m args below meth c s₁ B hml hv
  obtain ⟨rfl, hP, hK⟩ := hv
  have hx := B.exec
  have hb := B.bytes
  have hr := B.returns
  have hts := atoms_spec (ws := wsX10_othersThan) B.pre
  have hown : s.vm.findClass RX10 = some m.cls := findClass_of_methodNamed B.named
  have hlocks := B.notSynchronized
  have hin10 : ∀ w ∈ u_ws RX10 TX10 24, w ∈ wsX10_othersThan := by decide +kernel
  have hP : va_P D vwCl [(ma, .inr (10, [.ref mt, .int (nI tn), .int (nI n), .ref mk, .ref mw, .ref mc, .ref mh, .ref mp, .int (nI ow), .int ss, .int (nI uc), .ref mb, .int (nI kc), .ref me, .int (nI sc), .ref wp0, .ref wo0, .ref wb0, .int at0, .int rm0, .int ro0, .int rs0, .ref mr, .ref ml])), (mk, .inl (cI, 7, .inl mK)), (mw, .inl (cI, 7, .inl mW)), (mc, .inl (cI, 7, .inl mC)), (mh, .inl (cI, 7, .inl mH))] s.heap := hP
  have hl := lv_entry ([.ref ma, .int (nI own), .int (nI S)]) (n := 5) (Nat.le_of_ble_eq_true rfl)
  rw [lg_entry_eq]
  generalize (lg_sl ([.ref ma, .int (nI own), .int (nI S)]) ++ List.replicate (5 - (lg_sl ([.ref ma, .int (nI own), .int (nI S)])).length) Slot.unset).toArray = ls at hl ⊢
  have hl : lv_has ls 5 [(0, .ref ma), (1, .int (nI own)), (2, .int (nI S))] := hl
  have hn7 := hB.1
  have hp2 : 2 ^ n ≤ 128 := q_p2 hB.1
  have L5 : ∀ (fuel : Nat) (i : Nat) (hi : i ≤ n) (hf : n - i < fuel) (ls : Array Slot) (hl : lv_has ls 5 [(0, .ref ma), (1, .int (nI own)), (2, .int (nI S)), (3, .int (nI (q_hx T S own i))), (4, .int (nI i))]), W p l e (headSpec wsX10_othersThan ({ frames := 1, cells := 0, slots := 0, locals := 22 } : Room)).room s m ([.ref ma, .int (nI own), .int (nI S)] : List Value).toArray below meth c s.heap [] 0 0 (MQ below (vp_Si (fun r => r = nI (pop8 (q_wo (q_hm T S n) own)))) ([.ref ma, .int (nI own), .int (nI S)] : List Value).toArray s 0 0 (fun _ => False)) (F0 m 5 ls []) := by
    intro fuel
    induction fuel with
    | zero =>
      intro i hi hf ls hl
      exact absurd hf (Nat.not_lt_zero _)
    | succ fuel ih5 =>
      intro i hi hf ls hl
      refine lv_iload hx hb dX10_othersThan_5 (lv_at hl 4 rfl) ?_
      refine lv_aload_n hx hb dX10_othersThan_7 rfl (lv_at hl 0 rfl) ?_
      refine q_get (ci := 10) (CC := RX10) (T := TX10) (N := 24) (v := .int (nI n)) hx hb hts hin10 hown hK hP 0 rfl rfl 2 (by decide) (hts (.fieldLink RX10 13 "DearAsManyModel" "many" "I") (by decide +kernel)) rfl rfl dX10_othersThan_8 ?_
      refine q_nge (tgt := 56) hx hb dX10_othersThan_11 (by decide) (by omega) (by omega) (fun c_11 => ?_) (fun c_11 => ?_)
      · refine lv_iload_n hx hb dX10_othersThan_56 rfl (lv_at hl 3 rfl) ?_
        refine q_si (As := [.int (nI (q_hx T S own i))]) (rest := []) ⟨hx, hb, hml, hown, hts⟩ (c_X10_bits l (D := D) (cI := cI) (cB := cB) (cZ := cZ) (S := q_hx T S own i) (q_hx_lt hB hown9 hi)) (va_cwS 1 hts gX10_othersThan_X10_bits rfl rfl rfl (by decide +kernel) ⟨Nat.le_of_ble_eq_true rfl, Nat.le_of_ble_eq_true rfl⟩) hK hP [] rfl rfl hl.1 rfl (Nat.le_of_ble_eq_true rfl) dX10_othersThan_57 ⟨Nat.zero_le _, Nat.zero_le _⟩ (fun r_57 hr_57 => ?_)
        have hr_57 : nI (pop8 (q_hx T S own i)) = r_57 := (show r_57 = nI (pop8 (q_hx T S own i)) from hr_57).symm
        subst hr_57
        exact q_zret (v := nI (pop8 (q_hx T S own i))) hx hb hr hlocks (rfl) (show nI (pop8 (q_hx T S own i)) = nI (pop8 (q_wo (q_hm T S n) own)) from by rw [show i = n from by omega, q_hxE hown9 (fun j hj => (hB.2 j hj).2.2.2.1)]) dX10_othersThan_60
      · refine lv_iload_n hx hb dX10_othersThan_14 rfl (lv_at hl 3 rfl) ?_
        refine lv_iload_n hx hb dX10_othersThan_15 rfl (lv_at hl 2 rfl) ?_
        refine lv_iload hx hb dX10_othersThan_16 (lv_at hl 4 rfl) ?_
        refine q_si (As := [.int (nI S), .int (nI i)]) (rest := [.int (nI (q_hx T S own i))]) ⟨hx, hb, hml, hown, hts⟩ (c_X10_has l (D := D) (cI := cI) (cB := cB) (cZ := cZ) (S := S) (i := i) (by omega) (by omega)) (va_cwS 2 hts gX10_othersThan_X10_has rfl rfl rfl (by decide +kernel) ⟨Nat.le_of_ble_eq_true rfl, Nat.le_of_ble_eq_true rfl⟩) hK hP [] rfl rfl hl.1 rfl (Nat.le_of_ble_eq_true rfl) dX10_othersThan_18 ⟨Nat.zero_le _, Nat.zero_le _⟩ (fun r_18 hr_18 => ?_)
        have hr_18 : bI (S.testBit i) = r_18 := (show r_18 = bI (S.testBit i) from hr_18).symm
        subst hr_18
        refine q_beq (tgt := 47) hx hb dX10_othersThan_21 (by decide) (fun c_21 => ?_) (fun c_21 => ?_)
        · refine lv_iconst (v := nI 0) hx hb dX10_othersThan_47 (by decide) ?_
          refine q_ior (v := nI ((q_hx T S own i) ||| 0)) hx hb dX10_othersThan_48 (q_or _ _) ?_
          refine lv_istore_n (lv' := [(3, .int (nI ((q_hx T S own i) ||| 0))), (0, .ref ma), (1, .int (nI own)), (2, .int (nI S)), (4, .int (nI i))]) hx hb dX10_othersThan_49 rfl hl (by decide) rfl (fun ls hl => ?_)
          refine lv_iinc (v := nI (i + 1)) (lv' := [(4, .int (nI (i + 1))), (3, .int (nI ((q_hx T S own i) ||| 0))), (0, .ref ma), (1, .int (nI own)), (2, .int (nI S))]) hx hb dX10_othersThan_50 hl (k := 4) rfl (nI_add _ 1) (by decide) rfl (fun ls hl => ?_)
          refine lv_goto (tgt := 5) hx hb dX10_othersThan_53 (by decide) ?_
          have hl : lv_has ls 5 [(4, .int (nI (i + 1))), (3, .int (nI (q_hx T S own (i + 1)))), (0, .ref ma), (1, .int (nI own)), (2, .int (nI S))] := by rw [← show nI ((q_hx T S own i) ||| 0) = nI (q_hx T S own (i + 1)) from by rw [Nat.or_zero, q_hx, if_neg (fun z => by rw [c_21] at z; exact absurd z.1 (by decide))]]; exact hl
          exact ih5 (i + 1) (by first | assumption | exact Nat.zero_le _ | omega) (by omega) ls (lv_sub hl [2, 3, 4, 1, 0] rfl)
        · refine lv_aload_n hx hb dX10_othersThan_24 rfl (lv_at hl 0 rfl) ?_
          refine q_get (ci := 10) (CC := RX10) (T := TX10) (N := 24) (v := .ref mh) hx hb hts hin10 hown hK hP 0 rfl rfl 6 (by decide) (hts (.fieldLink RX10 26 "DearAsManyModel" "house" "[I") (by decide +kernel)) rfl rfl dX10_othersThan_25 ?_
          refine lv_iload hx hb dX10_othersThan_28 (lv_at hl 4 rfl) ?_
          refine q_aldv (v := nI (T i 3)) hx hb hK hP 4 0 rfl rfl (by omega) (by decide) dX10_othersThan_30 ((hMT i (by omega)).2.2.2) ?_
          refine lv_iload_n hx hb dX10_othersThan_31 rfl (lv_at hl 1 rfl) ?_
          refine q_neq (tgt := 47) hx hb dX10_othersThan_32 (by decide) (by have := (hB.2 i (by omega)).2.2.2.1; omega) (by omega) (fun c_32 => ?_) (fun c_32 => ?_)
          · refine lv_iconst (v := nI 0) hx hb dX10_othersThan_47 (by decide) ?_
            refine q_ior (v := nI ((q_hx T S own i) ||| 0)) hx hb dX10_othersThan_48 (q_or _ _) ?_
            refine lv_istore_n (lv' := [(3, .int (nI ((q_hx T S own i) ||| 0))), (0, .ref ma), (1, .int (nI own)), (2, .int (nI S)), (4, .int (nI i))]) hx hb dX10_othersThan_49 rfl hl (by decide) rfl (fun ls hl => ?_)
            refine lv_iinc (v := nI (i + 1)) (lv' := [(4, .int (nI (i + 1))), (3, .int (nI ((q_hx T S own i) ||| 0))), (0, .ref ma), (1, .int (nI own)), (2, .int (nI S))]) hx hb dX10_othersThan_50 hl (k := 4) rfl (nI_add _ 1) (by decide) rfl (fun ls hl => ?_)
            refine lv_goto (tgt := 5) hx hb dX10_othersThan_53 (by decide) ?_
            have hl : lv_has ls 5 [(4, .int (nI (i + 1))), (3, .int (nI (q_hx T S own (i + 1)))), (0, .ref ma), (1, .int (nI own)), (2, .int (nI S))] := by rw [← show nI ((q_hx T S own i) ||| 0) = nI (q_hx T S own (i + 1)) from by rw [Nat.or_zero, q_hx, if_neg (fun z => z.2 c_32)]]; exact hl
            exact ih5 (i + 1) (by first | assumption | exact Nat.zero_le _ | omega) (by omega) ls (lv_sub hl [2, 3, 4, 1, 0] rfl)
          · refine lv_iconst (v := nI 1) hx hb dX10_othersThan_35 (by decide) ?_
            refine lv_aload_n hx hb dX10_othersThan_36 rfl (lv_at hl 0 rfl) ?_
            refine q_get (ci := 10) (CC := RX10) (T := TX10) (N := 24) (v := .ref mh) hx hb hts hin10 hown hK hP 0 rfl rfl 6 (by decide) (hts (.fieldLink RX10 26 "DearAsManyModel" "house" "[I") (by decide +kernel)) rfl rfl dX10_othersThan_37 ?_
            refine lv_iload hx hb dX10_othersThan_40 (lv_at hl 4 rfl) ?_
            refine q_aldv (v := nI (T i 3)) hx hb hK hP 4 0 rfl rfl (by omega) (by decide) dX10_othersThan_42 ((hMT i (by omega)).2.2.2) ?_
            refine q_ishl (v := nI (2 ^ T i 3)) hx hb dX10_othersThan_43 (q_shl1 (by have := (hB.2 i (by omega)).2.2.2.1; omega)) ?_
            refine lv_goto (tgt := 48) hx hb dX10_othersThan_44 (by decide) ?_
            refine q_ior (v := nI ((q_hx T S own i) ||| (2 ^ T i 3))) hx hb dX10_othersThan_48 (q_or _ _) ?_
            refine lv_istore_n (lv' := [(3, .int (nI ((q_hx T S own i) ||| (2 ^ T i 3)))), (0, .ref ma), (1, .int (nI own)), (2, .int (nI S)), (4, .int (nI i))]) hx hb dX10_othersThan_49 rfl hl (by decide) rfl (fun ls hl => ?_)
            refine lv_iinc (v := nI (i + 1)) (lv' := [(4, .int (nI (i + 1))), (3, .int (nI ((q_hx T S own i) ||| (2 ^ T i 3)))), (0, .ref ma), (1, .int (nI own)), (2, .int (nI S))]) hx hb dX10_othersThan_50 hl (k := 4) rfl (nI_add _ 1) (by decide) rfl (fun ls hl => ?_)
            refine lv_goto (tgt := 5) hx hb dX10_othersThan_53 (by decide) ?_
            have hl : lv_has ls 5 [(4, .int (nI (i + 1))), (3, .int (nI (q_hx T S own (i + 1)))), (0, .ref ma), (1, .int (nI own)), (2, .int (nI S))] := by rw [← show nI ((q_hx T S own i) ||| (2 ^ T i 3)) = nI (q_hx T S own (i + 1)) from by rw [q_hx, if_pos ⟨c_21, c_32⟩]]; exact hl
            exact ih5 (i + 1) (by first | assumption | exact Nat.zero_le _ | omega) (by omega) ls (lv_sub hl [2, 3, 4, 1, 0] rfl)
  refine lv_iconst (v := nI 0) hx hb dX10_othersThan_0 (by decide) ?_
  refine lv_istore_n (lv' := [(3, .int (nI 0)), (0, .ref ma), (1, .int (nI own)), (2, .int (nI S))]) hx hb dX10_othersThan_1 rfl hl (by decide) rfl (fun ls hl => ?_)
  refine lv_iconst (v := nI 0) hx hb dX10_othersThan_2 (by decide) ?_
  refine lv_istore (lv' := [(4, .int (nI 0)), (3, .int (nI 0)), (0, .ref ma), (1, .int (nI own)), (2, .int (nI S))]) hx hb dX10_othersThan_3 hl (by decide) rfl (fun ls hl => ?_)
  exact L5 _ 0 (by first | assumption | exact Nat.zero_le _ | omega) (Nat.lt_succ_self _) ls (lv_sub hl [2, 3, 4, 1, 0] rfl)

set_option maxHeartbeats 4000000 in
set_option maxRecDepth 100000 in
theorem c_X10_others (l : Launch) {D : va_G} {cI cB cZ : ClassId} {ma : Nat} {mt : Nat} {mk : Nat} {mw : Nat} {mc : Nat} {mh : Nat} {mp : Nat} {mb : Nat} {me : Nat} {wp0 : Nat} {wo0 : Nat} {wb0 : Nat} {mr : Nat} {ml : Nat} {tn : Nat} {n : Nat} {ow : Nat} {uc : Nat} {kc : Nat} {sc : Nat} {ss : Int32} {at0 : Int32} {rm0 : Int32} {ro0 : Int32} {rs0 : Int32} {mK : Nat → Int32} {mW : Nat → Int32} {mC : Nat → Int32} {mH : Nat → Int32} {T : Nat → Nat → Nat} {i : Nat} {S : Nat} (hMT : q_MT T n mK mW mC mH) (hB : q_Bd T n) (hn1 : 1 ≤ n) (hi : i < n) (hS9 : S < 2 ^ n) : Met l yX10_others wsX10_others ({ frames := 2, cells := 0, slots := 0, locals := 46 } : Room) (va_Pc [.ref ma, .int (nI i), .int (nI S)] (q_B D (q_tys cI cB cZ) [(ma, .inr (10, [.ref mt, .int (nI tn), .int (nI n), .ref mk, .ref mw, .ref mc, .ref mh, .ref mp, .int (nI ow), .int ss, .int (nI uc), .ref mb, .int (nI kc), .ref me, .int (nI sc), .ref wp0, .ref wo0, .ref wb0, .int at0, .int rm0, .int ro0, .int rs0, .ref mr, .ref ml])), (mk, .inl (cI, 7, .inl mK)), (mw, .inl (cI, 7, .inl mW)), (mc, .inl (cI, 7, .inl mC)), (mh, .inl (cI, 7, .inl mH))])) (vp_Si (fun r => r = nI (q_oth T n i S))) 0 0 (fun _ => False) := by
  refine Met.ofW (cc := cX10_others) (maxL := 3) (ret := (some .int)) (by decide) rfl ?_
  intro p e s m args below meth c s₁ B hml hv
  obtain ⟨rfl, hP, hK⟩ := hv
  have hx := B.exec
  have hb := B.bytes
  have hr := B.returns
  have hts := atoms_spec (ws := wsX10_others) B.pre
  have hown : s.vm.findClass RX10 = some m.cls := findClass_of_methodNamed B.named
  have hlocks := B.notSynchronized
  have hin10 : ∀ w ∈ u_ws RX10 TX10 24, w ∈ wsX10_others := by decide +kernel
  have hP : va_P D vwCl [(ma, .inr (10, [.ref mt, .int (nI tn), .int (nI n), .ref mk, .ref mw, .ref mc, .ref mh, .ref mp, .int (nI ow), .int ss, .int (nI uc), .ref mb, .int (nI kc), .ref me, .int (nI sc), .ref wp0, .ref wo0, .ref wb0, .int at0, .int rm0, .int ro0, .int rs0, .ref mr, .ref ml])), (mk, .inl (cI, 7, .inl mK)), (mw, .inl (cI, 7, .inl mW)), (mc, .inl (cI, 7, .inl mC)), (mh, .inl (cI, 7, .inl mH))] s.heap := hP
  have hl := lv_entry ([.ref ma, .int (nI i), .int (nI S)]) (n := 3) (Nat.le_of_ble_eq_true rfl)
  rw [lg_entry_eq]
  generalize (lg_sl ([.ref ma, .int (nI i), .int (nI S)]) ++ List.replicate (3 - (lg_sl ([.ref ma, .int (nI i), .int (nI S)])).length) Slot.unset).toArray = ls at hl ⊢
  have hl : lv_has ls 3 [(0, .ref ma), (1, .int (nI i)), (2, .int (nI S))] := hl
  have hn7 := hB.1
  have hp2 : 2 ^ n ≤ 128 := q_p2 hB.1
  refine lv_aload_n hx hb dX10_others_0 rfl (lv_at hl 0 rfl) ?_
  refine lv_aload_n hx hb dX10_others_1 rfl (lv_at hl 0 rfl) ?_
  refine q_get (ci := 10) (CC := RX10) (T := TX10) (N := 24) (v := .ref mh) hx hb hts hin10 hown hK hP 0 rfl rfl 6 (by decide) (hts (.fieldLink RX10 26 "DearAsManyModel" "house" "[I") (by decide +kernel)) rfl rfl dX10_others_2 ?_
  refine lv_iload_n hx hb dX10_others_5 rfl (lv_at hl 1 rfl) ?_
  refine q_aldv (v := nI (T i 3)) hx hb hK hP 4 0 rfl rfl (by omega) (by decide) dX10_others_6 ((hMT i hi).2.2.2) ?_
  refine lv_iload_n hx hb dX10_others_7 rfl (lv_at hl 2 rfl) ?_
  refine q_vi (As := [.int (nI (T i 3)), .int (nI S)]) (rest := []) ⟨hx, hb, hml, hown, hts⟩ (c_X10_othersThan l (D := D) (cI := cI) (cB := cB) (cZ := cZ) (ma := ma) (mt := mt) (mk := mk) (mw := mw) (mc := mc) (mh := mh) (mp := mp) (mb := mb) (me := me) (wp0 := wp0) (wo0 := wo0) (wb0 := wb0) (mr := mr) (ml := ml) (tn := tn) (n := n) (ow := ow) (uc := uc) (kc := kc) (sc := sc) (ss := ss) (at0 := at0) (rm0 := rm0) (ro0 := ro0) (rs0 := rs0) (mK := mK) (mW := mW) (mC := mC) (mH := mH) (T := T) (own := T i 3) (S := S) (by first | assumption | exact Nat.zero_le _ | omega) (by first | assumption | exact Nat.zero_le _ | omega) (by first | assumption | exact Nat.zero_le _ | omega) ((hB.2 i hi).2.2.2.1) (by first | assumption | exact Nat.zero_le _ | omega)) (cwV 2 hts gX10_others_X10_othersThan rfl rfl rfl (by decide +kernel) ⟨Nat.le_of_ble_eq_true rfl, Nat.le_of_ble_eq_true rfl⟩) hK hP [0, 1, 2, 3, 4] rfl 0 10 rfl rfl rfl rfl hl.1 rfl (Nat.le_of_ble_eq_true rfl) dX10_others_8 ⟨Nat.zero_le _, Nat.zero_le _⟩ (fun r_8 hr_8 => ?_)
  have hr_8 : nI (pop8 (q_wo (q_hm T S n) (T i 3))) = r_8 := (show r_8 = nI (pop8 (q_wo (q_hm T S n) (T i 3))) from hr_8).symm
  subst hr_8
  exact q_zret (v := nI (pop8 (q_wo (q_hm T S n) (T i 3)))) hx hb hr hlocks (rfl) (show nI (pop8 (q_wo (q_hm T S n) (T i 3))) = nI (q_oth T n i S) from rfl) dX10_others_11

set_option maxHeartbeats 4000000 in
set_option maxRecDepth 100000 in
theorem c_X10_worthBy (l : Launch) {D : va_G} {cI cB cZ : ClassId} {k : Nat} {cc : Nat} {o : Nat} {x : Int32} (hk : k < 4) (ho : o ≤ 8) : Met l yX10_worthBy wsX10_worthBy ({ frames := 0, cells := 0, slots := 0, locals := 0 } : Room) (va_Pc [.int (nI k), .int x, .int (nI cc), .int (nI o)] (q_B D (q_tys cI cB cZ) [])) (vp_Si (fun r => r = q_wby k x cc o)) 0 0 (fun _ => False) := by
  refine Met.ofW (cc := cX10_worthBy) (maxL := 4) (ret := (some .int)) (by decide) rfl ?_
  intro p e s m args below meth c s₁ B hml hv
  obtain ⟨rfl, hP, hK⟩ := hv
  have hx := B.exec
  have hb := B.bytes
  have hr := B.returns
  have hts := atoms_spec (ws := wsX10_worthBy) B.pre
  have hown : s.vm.findClass RX10 = some m.cls := findClass_of_methodNamed B.named
  have hlocks := B.notSynchronized
  have hP : va_P D vwCl [] s.heap := hP
  have hl := lv_entry ([.int (nI k), .int x, .int (nI cc), .int (nI o)]) (n := 4) (Nat.le_of_ble_eq_true rfl)
  rw [lg_entry_eq]
  generalize (lg_sl ([.int (nI k), .int x, .int (nI cc), .int (nI o)]) ++ List.replicate (4 - (lg_sl ([.int (nI k), .int x, .int (nI cc), .int (nI o)])).length) Slot.unset).toArray = ls at hl ⊢
  have hl : lv_has ls 4 [(0, .int (nI k)), (1, .int x), (2, .int (nI cc)), (3, .int (nI o))] := hl
  refine lv_iload_n hx hb dX10_worthBy_0 rfl (lv_at hl 3 rfl) ?_
  refine q_zle (tgt := 11) hx hb dX10_worthBy_1 (by decide) (by omega) (fun c_1 => ?_) (fun c_1 => ?_)
  · refine lv_iload_n hx hb dX10_worthBy_11 rfl (lv_at hl 3 rfl) ?_
    refine q_zle (tgt := 22) hx hb dX10_worthBy_12 (by decide) (by omega) (fun c_12 => ?_) (fun c_12 => ?_)
    · refine lv_iload_n hx hb dX10_worthBy_22 rfl (lv_at hl 0 rfl) ?_
      refine lv_iconst (v := nI 3) hx hb dX10_worthBy_23 (by decide) ?_
      refine q_nne (tgt := 36) hx hb dX10_worthBy_24 (by decide) (by omega) (by omega) (fun c_24 => ?_) (fun c_24 => ?_)
      · refine lv_iload_n hx hb dX10_worthBy_36 rfl (lv_at hl 1 rfl) ?_
        refine lv_iload_n hx hb dX10_worthBy_37 rfl (lv_at hl 2 rfl) ?_
        refine lv_bipush (v := nI 9) hx hb dX10_worthBy_38 (by decide) ?_
        refine q_isub (v := (nI cc) - (nI 9)) hx hb dX10_worthBy_40 (rfl) ?_
        refine lv_iload_n hx hb dX10_worthBy_41 rfl (lv_at hl 3 rfl) ?_
        refine q_imul (v := ((nI cc) - (nI 9)) * (nI o)) hx hb dX10_worthBy_42 (rfl) ?_
        refine q_iadd (v := x + (((nI cc) - (nI 9)) * (nI o))) hx hb dX10_worthBy_43 (rfl) ?_
        exact q_zret (v := x + (((nI cc) - (nI 9)) * (nI o))) hx hb hr hlocks (rfl) (show x + (((nI cc) - (nI 9)) * (nI o)) = q_wby k x cc o from by unfold q_wby; (repeat' split) <;> first | rfl | omega) dX10_worthBy_44
      · refine lv_iload_n hx hb dX10_worthBy_27 rfl (lv_at hl 3 rfl) ?_
        refine lv_iconst (v := nI 2) hx hb dX10_worthBy_28 (by decide) ?_
        refine q_nge (tgt := 36) hx hb dX10_worthBy_29 (by decide) (by omega) (by omega) (fun c_29 => ?_) (fun c_29 => ?_)
        · refine lv_iload_n hx hb dX10_worthBy_36 rfl (lv_at hl 1 rfl) ?_
          refine lv_iload_n hx hb dX10_worthBy_37 rfl (lv_at hl 2 rfl) ?_
          refine lv_bipush (v := nI 9) hx hb dX10_worthBy_38 (by decide) ?_
          refine q_isub (v := (nI cc) - (nI 9)) hx hb dX10_worthBy_40 (rfl) ?_
          refine lv_iload_n hx hb dX10_worthBy_41 rfl (lv_at hl 3 rfl) ?_
          refine q_imul (v := ((nI cc) - (nI 9)) * (nI o)) hx hb dX10_worthBy_42 (rfl) ?_
          refine q_iadd (v := x + (((nI cc) - (nI 9)) * (nI o))) hx hb dX10_worthBy_43 (rfl) ?_
          exact q_zret (v := x + (((nI cc) - (nI 9)) * (nI o))) hx hb hr hlocks (rfl) (show x + (((nI cc) - (nI 9)) * (nI o)) = q_wby k x cc o from by unfold q_wby; (repeat' split) <;> first | rfl | omega) dX10_worthBy_44
        · refine lv_iconst (v := nI 0) hx hb dX10_worthBy_32 (by decide) ?_
          refine lv_goto (tgt := 44) hx hb dX10_worthBy_33 (by decide) ?_
          exact q_zret (v := nI 0) hx hb hr hlocks (rfl) (show nI 0 = q_wby k x cc o from by unfold q_wby; (repeat' split) <;> first | rfl | omega) dX10_worthBy_44
    · refine lv_iload_n hx hb dX10_worthBy_15 rfl (lv_at hl 0 rfl) ?_
      refine lv_iconst (v := nI 2) hx hb dX10_worthBy_16 (by decide) ?_
      refine q_nne (tgt := 22) hx hb dX10_worthBy_17 (by decide) (by omega) (by omega) (fun c_17 => ?_) (fun c_17 => ?_)
      · refine lv_iload_n hx hb dX10_worthBy_22 rfl (lv_at hl 0 rfl) ?_
        refine lv_iconst (v := nI 3) hx hb dX10_worthBy_23 (by decide) ?_
        refine q_nne (tgt := 36) hx hb dX10_worthBy_24 (by decide) (by omega) (by omega) (fun c_24 => ?_) (fun c_24 => ?_)
        · refine lv_iload_n hx hb dX10_worthBy_36 rfl (lv_at hl 1 rfl) ?_
          refine lv_iload_n hx hb dX10_worthBy_37 rfl (lv_at hl 2 rfl) ?_
          refine lv_bipush (v := nI 9) hx hb dX10_worthBy_38 (by decide) ?_
          refine q_isub (v := (nI cc) - (nI 9)) hx hb dX10_worthBy_40 (rfl) ?_
          refine lv_iload_n hx hb dX10_worthBy_41 rfl (lv_at hl 3 rfl) ?_
          refine q_imul (v := ((nI cc) - (nI 9)) * (nI o)) hx hb dX10_worthBy_42 (rfl) ?_
          refine q_iadd (v := x + (((nI cc) - (nI 9)) * (nI o))) hx hb dX10_worthBy_43 (rfl) ?_
          exact q_zret (v := x + (((nI cc) - (nI 9)) * (nI o))) hx hb hr hlocks (rfl) (show x + (((nI cc) - (nI 9)) * (nI o)) = q_wby k x cc o from by unfold q_wby; (repeat' split) <;> first | rfl | omega) dX10_worthBy_44
        · refine lv_iload_n hx hb dX10_worthBy_27 rfl (lv_at hl 3 rfl) ?_
          refine lv_iconst (v := nI 2) hx hb dX10_worthBy_28 (by decide) ?_
          refine q_nge (tgt := 36) hx hb dX10_worthBy_29 (by decide) (by omega) (by omega) (fun c_29 => ?_) (fun c_29 => ?_)
          · refine lv_iload_n hx hb dX10_worthBy_36 rfl (lv_at hl 1 rfl) ?_
            refine lv_iload_n hx hb dX10_worthBy_37 rfl (lv_at hl 2 rfl) ?_
            refine lv_bipush (v := nI 9) hx hb dX10_worthBy_38 (by decide) ?_
            refine q_isub (v := (nI cc) - (nI 9)) hx hb dX10_worthBy_40 (rfl) ?_
            refine lv_iload_n hx hb dX10_worthBy_41 rfl (lv_at hl 3 rfl) ?_
            refine q_imul (v := ((nI cc) - (nI 9)) * (nI o)) hx hb dX10_worthBy_42 (rfl) ?_
            refine q_iadd (v := x + (((nI cc) - (nI 9)) * (nI o))) hx hb dX10_worthBy_43 (rfl) ?_
            exact q_zret (v := x + (((nI cc) - (nI 9)) * (nI o))) hx hb hr hlocks (rfl) (show x + (((nI cc) - (nI 9)) * (nI o)) = q_wby k x cc o from by unfold q_wby; (repeat' split) <;> first | rfl | omega) dX10_worthBy_44
          · refine lv_iconst (v := nI 0) hx hb dX10_worthBy_32 (by decide) ?_
            refine lv_goto (tgt := 44) hx hb dX10_worthBy_33 (by decide) ?_
            exact q_zret (v := nI 0) hx hb hr hlocks (rfl) (show nI 0 = q_wby k x cc o from by unfold q_wby; (repeat' split) <;> first | rfl | omega) dX10_worthBy_44
      · refine lv_iconst (v := (-1 : Int32)) hx hb dX10_worthBy_20 (by decide) ?_
        exact q_zret (v := (-1 : Int32)) hx hb hr hlocks (rfl) (show (-1 : Int32) = q_wby k x cc o from by unfold q_wby; (repeat' split) <;> first | rfl | omega) dX10_worthBy_21
  · refine lv_iload_n hx hb dX10_worthBy_4 rfl (lv_at hl 0 rfl) ?_
    refine lv_iconst (v := nI 1) hx hb dX10_worthBy_5 (by decide) ?_
    refine q_nne (tgt := 11) hx hb dX10_worthBy_6 (by decide) (by omega) (by omega) (fun c_6 => ?_) (fun c_6 => ?_)
    · refine lv_iload_n hx hb dX10_worthBy_11 rfl (lv_at hl 3 rfl) ?_
      refine q_zle (tgt := 22) hx hb dX10_worthBy_12 (by decide) (by omega) (fun c_12 => ?_) (fun c_12 => ?_)
      · refine lv_iload_n hx hb dX10_worthBy_22 rfl (lv_at hl 0 rfl) ?_
        refine lv_iconst (v := nI 3) hx hb dX10_worthBy_23 (by decide) ?_
        refine q_nne (tgt := 36) hx hb dX10_worthBy_24 (by decide) (by omega) (by omega) (fun c_24 => ?_) (fun c_24 => ?_)
        · refine lv_iload_n hx hb dX10_worthBy_36 rfl (lv_at hl 1 rfl) ?_
          refine lv_iload_n hx hb dX10_worthBy_37 rfl (lv_at hl 2 rfl) ?_
          refine lv_bipush (v := nI 9) hx hb dX10_worthBy_38 (by decide) ?_
          refine q_isub (v := (nI cc) - (nI 9)) hx hb dX10_worthBy_40 (rfl) ?_
          refine lv_iload_n hx hb dX10_worthBy_41 rfl (lv_at hl 3 rfl) ?_
          refine q_imul (v := ((nI cc) - (nI 9)) * (nI o)) hx hb dX10_worthBy_42 (rfl) ?_
          refine q_iadd (v := x + (((nI cc) - (nI 9)) * (nI o))) hx hb dX10_worthBy_43 (rfl) ?_
          exact q_zret (v := x + (((nI cc) - (nI 9)) * (nI o))) hx hb hr hlocks (rfl) (show x + (((nI cc) - (nI 9)) * (nI o)) = q_wby k x cc o from by unfold q_wby; (repeat' split) <;> first | rfl | omega) dX10_worthBy_44
        · refine lv_iload_n hx hb dX10_worthBy_27 rfl (lv_at hl 3 rfl) ?_
          refine lv_iconst (v := nI 2) hx hb dX10_worthBy_28 (by decide) ?_
          refine q_nge (tgt := 36) hx hb dX10_worthBy_29 (by decide) (by omega) (by omega) (fun c_29 => ?_) (fun c_29 => ?_)
          · refine lv_iload_n hx hb dX10_worthBy_36 rfl (lv_at hl 1 rfl) ?_
            refine lv_iload_n hx hb dX10_worthBy_37 rfl (lv_at hl 2 rfl) ?_
            refine lv_bipush (v := nI 9) hx hb dX10_worthBy_38 (by decide) ?_
            refine q_isub (v := (nI cc) - (nI 9)) hx hb dX10_worthBy_40 (rfl) ?_
            refine lv_iload_n hx hb dX10_worthBy_41 rfl (lv_at hl 3 rfl) ?_
            refine q_imul (v := ((nI cc) - (nI 9)) * (nI o)) hx hb dX10_worthBy_42 (rfl) ?_
            refine q_iadd (v := x + (((nI cc) - (nI 9)) * (nI o))) hx hb dX10_worthBy_43 (rfl) ?_
            exact q_zret (v := x + (((nI cc) - (nI 9)) * (nI o))) hx hb hr hlocks (rfl) (show x + (((nI cc) - (nI 9)) * (nI o)) = q_wby k x cc o from by unfold q_wby; (repeat' split) <;> first | rfl | omega) dX10_worthBy_44
          · refine lv_iconst (v := nI 0) hx hb dX10_worthBy_32 (by decide) ?_
            refine lv_goto (tgt := 44) hx hb dX10_worthBy_33 (by decide) ?_
            exact q_zret (v := nI 0) hx hb hr hlocks (rfl) (show nI 0 = q_wby k x cc o from by unfold q_wby; (repeat' split) <;> first | rfl | omega) dX10_worthBy_44
      · refine lv_iload_n hx hb dX10_worthBy_15 rfl (lv_at hl 0 rfl) ?_
        refine lv_iconst (v := nI 2) hx hb dX10_worthBy_16 (by decide) ?_
        refine q_nne (tgt := 22) hx hb dX10_worthBy_17 (by decide) (by omega) (by omega) (fun c_17 => ?_) (fun c_17 => ?_)
        · refine lv_iload_n hx hb dX10_worthBy_22 rfl (lv_at hl 0 rfl) ?_
          refine lv_iconst (v := nI 3) hx hb dX10_worthBy_23 (by decide) ?_
          refine q_nne (tgt := 36) hx hb dX10_worthBy_24 (by decide) (by omega) (by omega) (fun c_24 => ?_) (fun c_24 => ?_)
          · refine lv_iload_n hx hb dX10_worthBy_36 rfl (lv_at hl 1 rfl) ?_
            refine lv_iload_n hx hb dX10_worthBy_37 rfl (lv_at hl 2 rfl) ?_
            refine lv_bipush (v := nI 9) hx hb dX10_worthBy_38 (by decide) ?_
            refine q_isub (v := (nI cc) - (nI 9)) hx hb dX10_worthBy_40 (rfl) ?_
            refine lv_iload_n hx hb dX10_worthBy_41 rfl (lv_at hl 3 rfl) ?_
            refine q_imul (v := ((nI cc) - (nI 9)) * (nI o)) hx hb dX10_worthBy_42 (rfl) ?_
            refine q_iadd (v := x + (((nI cc) - (nI 9)) * (nI o))) hx hb dX10_worthBy_43 (rfl) ?_
            exact q_zret (v := x + (((nI cc) - (nI 9)) * (nI o))) hx hb hr hlocks (rfl) (show x + (((nI cc) - (nI 9)) * (nI o)) = q_wby k x cc o from by unfold q_wby; (repeat' split) <;> first | rfl | omega) dX10_worthBy_44
          · refine lv_iload_n hx hb dX10_worthBy_27 rfl (lv_at hl 3 rfl) ?_
            refine lv_iconst (v := nI 2) hx hb dX10_worthBy_28 (by decide) ?_
            refine q_nge (tgt := 36) hx hb dX10_worthBy_29 (by decide) (by omega) (by omega) (fun c_29 => ?_) (fun c_29 => ?_)
            · refine lv_iload_n hx hb dX10_worthBy_36 rfl (lv_at hl 1 rfl) ?_
              refine lv_iload_n hx hb dX10_worthBy_37 rfl (lv_at hl 2 rfl) ?_
              refine lv_bipush (v := nI 9) hx hb dX10_worthBy_38 (by decide) ?_
              refine q_isub (v := (nI cc) - (nI 9)) hx hb dX10_worthBy_40 (rfl) ?_
              refine lv_iload_n hx hb dX10_worthBy_41 rfl (lv_at hl 3 rfl) ?_
              refine q_imul (v := ((nI cc) - (nI 9)) * (nI o)) hx hb dX10_worthBy_42 (rfl) ?_
              refine q_iadd (v := x + (((nI cc) - (nI 9)) * (nI o))) hx hb dX10_worthBy_43 (rfl) ?_
              exact q_zret (v := x + (((nI cc) - (nI 9)) * (nI o))) hx hb hr hlocks (rfl) (show x + (((nI cc) - (nI 9)) * (nI o)) = q_wby k x cc o from by unfold q_wby; (repeat' split) <;> first | rfl | omega) dX10_worthBy_44
            · refine lv_iconst (v := nI 0) hx hb dX10_worthBy_32 (by decide) ?_
              refine lv_goto (tgt := 44) hx hb dX10_worthBy_33 (by decide) ?_
              exact q_zret (v := nI 0) hx hb hr hlocks (rfl) (show nI 0 = q_wby k x cc o from by unfold q_wby; (repeat' split) <;> first | rfl | omega) dX10_worthBy_44
        · refine lv_iconst (v := (-1 : Int32)) hx hb dX10_worthBy_20 (by decide) ?_
          exact q_zret (v := (-1 : Int32)) hx hb hr hlocks (rfl) (show (-1 : Int32) = q_wby k x cc o from by unfold q_wby; (repeat' split) <;> first | rfl | omega) dX10_worthBy_21
    · refine lv_iconst (v := nI 0) hx hb dX10_worthBy_9 (by decide) ?_
      exact q_zret (v := nI 0) hx hb hr hlocks (rfl) (show nI 0 = q_wby k x cc o from by unfold q_wby; (repeat' split) <;> first | rfl | omega) dX10_worthBy_10

set_option maxHeartbeats 4000000 in
set_option maxRecDepth 100000 in
theorem c_X10_worthOf (l : Launch) {D : va_G} {cI cB cZ : ClassId} {ma : Nat} {mt : Nat} {mk : Nat} {mw : Nat} {mc : Nat} {mh : Nat} {mp : Nat} {mb : Nat} {me : Nat} {wp0 : Nat} {wo0 : Nat} {wb0 : Nat} {mr : Nat} {ml : Nat} {tn : Nat} {n : Nat} {ow : Nat} {uc : Nat} {kc : Nat} {sc : Nat} {ss : Int32} {at0 : Int32} {rm0 : Int32} {ro0 : Int32} {rs0 : Int32} {mK : Nat → Int32} {mW : Nat → Int32} {mC : Nat → Int32} {mH : Nat → Int32} {T : Nat → Nat → Nat} {i : Nat} {S : Nat} (hMT : q_MT T n mK mW mC mH) (hB : q_Bd T n) (hn1 : 1 ≤ n) (hi : i < n) (hS9 : S < 2 ^ n) : Met l yX10_worthOf wsX10_worthOf ({ frames := 3, cells := 0, slots := 0, locals := 68 } : Room) (va_Pc [.ref ma, .int (nI i), .int (nI S)] (q_B D (q_tys cI cB cZ) [(ma, .inr (10, [.ref mt, .int (nI tn), .int (nI n), .ref mk, .ref mw, .ref mc, .ref mh, .ref mp, .int (nI ow), .int ss, .int (nI uc), .ref mb, .int (nI kc), .ref me, .int (nI sc), .ref wp0, .ref wo0, .ref wb0, .int at0, .int rm0, .int ro0, .int rs0, .ref mr, .ref ml])), (mk, .inl (cI, 7, .inl mK)), (mw, .inl (cI, 7, .inl mW)), (mc, .inl (cI, 7, .inl mC)), (mh, .inl (cI, 7, .inl mH))])) (vp_Si (fun r => r = q_wor T n ss i S)) 0 0 (fun _ => False) := by
  refine Met.ofW (cc := cX10_worthOf) (maxL := 3) (ret := (some .int)) (by decide) rfl ?_
  intro p e s m args below meth c s₁ B hml hv
  obtain ⟨rfl, hP, hK⟩ := hv
  have hx := B.exec
  have hb := B.bytes
  have hr := B.returns
  have hts := atoms_spec (ws := wsX10_worthOf) B.pre
  have hown : s.vm.findClass RX10 = some m.cls := findClass_of_methodNamed B.named
  have hlocks := B.notSynchronized
  have hin10 : ∀ w ∈ u_ws RX10 TX10 24, w ∈ wsX10_worthOf := by decide +kernel
  have hP : va_P D vwCl [(ma, .inr (10, [.ref mt, .int (nI tn), .int (nI n), .ref mk, .ref mw, .ref mc, .ref mh, .ref mp, .int (nI ow), .int ss, .int (nI uc), .ref mb, .int (nI kc), .ref me, .int (nI sc), .ref wp0, .ref wo0, .ref wb0, .int at0, .int rm0, .int ro0, .int rs0, .ref mr, .ref ml])), (mk, .inl (cI, 7, .inl mK)), (mw, .inl (cI, 7, .inl mW)), (mc, .inl (cI, 7, .inl mC)), (mh, .inl (cI, 7, .inl mH))] s.heap := hP
  have hl := lv_entry ([.ref ma, .int (nI i), .int (nI S)]) (n := 3) (Nat.le_of_ble_eq_true rfl)
  rw [lg_entry_eq]
  generalize (lg_sl ([.ref ma, .int (nI i), .int (nI S)]) ++ List.replicate (3 - (lg_sl ([.ref ma, .int (nI i), .int (nI S)])).length) Slot.unset).toArray = ls at hl ⊢
  have hl : lv_has ls 3 [(0, .ref ma), (1, .int (nI i)), (2, .int (nI S))] := hl
  have hn7 := hB.1
  have hp2 : 2 ^ n ≤ 128 := q_p2 hB.1
  refine lv_aload_n hx hb dX10_worthOf_0 rfl (lv_at hl 0 rfl) ?_
  refine q_get (ci := 10) (CC := RX10) (T := TX10) (N := 24) (v := .ref mk) hx hb hts hin10 hown hK hP 0 rfl rfl 3 (by decide) (hts (.fieldLink RX10 17 "DearAsManyModel" "kind" "[I") (by decide +kernel)) rfl rfl dX10_worthOf_1 ?_
  refine lv_iload_n hx hb dX10_worthOf_4 rfl (lv_at hl 1 rfl) ?_
  refine q_aldv (v := nI (T i 0)) hx hb hK hP 1 0 rfl rfl (by omega) (by decide) dX10_worthOf_5 ((hMT i hi).1) ?_
  refine lv_aload_n hx hb dX10_worthOf_6 rfl (lv_at hl 0 rfl) ?_
  refine q_get (ci := 10) (CC := RX10) (T := TX10) (N := 24) (v := .ref mw) hx hb hts hin10 hown hK hP 0 rfl rfl 4 (by decide) (hts (.fieldLink RX10 20 "DearAsManyModel" "w" "[I") (by decide +kernel)) rfl rfl dX10_worthOf_7 ?_
  refine lv_iload_n hx hb dX10_worthOf_10 rfl (lv_at hl 1 rfl) ?_
  refine q_aldv (v := nI (T i 1)) hx hb hK hP 2 0 rfl rfl (by omega) (by decide) dX10_worthOf_11 ((hMT i hi).2.1) ?_
  refine lv_aload_n hx hb dX10_worthOf_12 rfl (lv_at hl 0 rfl) ?_
  refine q_get (ci := 10) (CC := RX10) (T := TX10) (N := 24) (v := .int ss) hx hb hts hin10 hown hK hP 0 rfl rfl 9 (by decide) (hts (.fieldLink RX10 32 "DearAsManyModel" "season" "I") (by decide +kernel)) rfl rfl dX10_worthOf_13 ?_
  refine q_iadd (v := (nI (T i 1)) + ss) hx hb dX10_worthOf_16 (rfl) ?_
  refine lv_bipush (v := nI 50) hx hb dX10_worthOf_17 (by decide) ?_
  refine q_isub (v := nI (T i 1) + (ss - nI 50)) hx hb dX10_worthOf_19 (q_as _ _ _) ?_
  refine lv_aload_n hx hb dX10_worthOf_20 rfl (lv_at hl 0 rfl) ?_
  refine q_get (ci := 10) (CC := RX10) (T := TX10) (N := 24) (v := .ref mc) hx hb hts hin10 hown hK hP 0 rfl rfl 5 (by decide) (hts (.fieldLink RX10 23 "DearAsManyModel" "c" "[I") (by decide +kernel)) rfl rfl dX10_worthOf_21 ?_
  refine lv_iload_n hx hb dX10_worthOf_24 rfl (lv_at hl 1 rfl) ?_
  refine q_aldv (v := nI (T i 2)) hx hb hK hP 3 0 rfl rfl (by omega) (by decide) dX10_worthOf_25 ((hMT i hi).2.2.1) ?_
  refine lv_aload_n hx hb dX10_worthOf_26 rfl (lv_at hl 0 rfl) ?_
  refine lv_iload_n hx hb dX10_worthOf_27 rfl (lv_at hl 1 rfl) ?_
  refine lv_iload_n hx hb dX10_worthOf_28 rfl (lv_at hl 2 rfl) ?_
  refine q_vi (As := [.int (nI i), .int (nI S)]) (rest := [.int (nI (T i 2)), .int (nI (T i 1) + (ss - nI 50)), .int (nI (T i 0))]) ⟨hx, hb, hml, hown, hts⟩ (c_X10_others l (D := D) (cI := cI) (cB := cB) (cZ := cZ) (ma := ma) (mt := mt) (mk := mk) (mw := mw) (mc := mc) (mh := mh) (mp := mp) (mb := mb) (me := me) (wp0 := wp0) (wo0 := wo0) (wb0 := wb0) (mr := mr) (ml := ml) (tn := tn) (n := n) (ow := ow) (uc := uc) (kc := kc) (sc := sc) (ss := ss) (at0 := at0) (rm0 := rm0) (ro0 := ro0) (rs0 := rs0) (mK := mK) (mW := mW) (mC := mC) (mH := mH) (T := T) (i := i) (S := S) (by first | assumption | exact Nat.zero_le _ | omega) (by first | assumption | exact Nat.zero_le _ | omega) (by first | assumption | exact Nat.zero_le _ | omega) (by first | assumption | exact Nat.zero_le _ | omega) (by first | assumption | exact Nat.zero_le _ | omega)) (cwV 2 hts gX10_worthOf_X10_others rfl rfl rfl (by decide +kernel) ⟨Nat.le_of_ble_eq_true rfl, Nat.le_of_ble_eq_true rfl⟩) hK hP [0, 1, 2, 3, 4] rfl 0 10 rfl rfl rfl rfl hl.1 rfl (Nat.le_of_ble_eq_true rfl) dX10_worthOf_29 ⟨Nat.zero_le _, Nat.zero_le _⟩ (fun r_29 hr_29 => ?_)
  have hr_29 : nI (q_oth T n i S) = r_29 := (show r_29 = nI (q_oth T n i S) from hr_29).symm
  subst hr_29
  refine q_si (As := [.int (nI (T i 0)), .int (nI (T i 1) + (ss - nI 50)), .int (nI (T i 2)), .int (nI (q_oth T n i S))]) (rest := []) ⟨hx, hb, hml, hown, hts⟩ (c_X10_worthBy l (D := D) (cI := cI) (cB := cB) (cZ := cZ) (k := T i 0) (cc := T i 2) (o := q_oth T n i S) (x := nI (T i 1) + (ss - nI 50)) ((hB.2 i hi).1) (q_oth_le _ _ _ _)) (va_cwS 4 hts gX10_worthOf_X10_worthBy rfl rfl rfl (by decide +kernel) ⟨Nat.le_of_ble_eq_true rfl, Nat.le_of_ble_eq_true rfl⟩) hK hP [] rfl rfl hl.1 rfl (Nat.le_of_ble_eq_true rfl) dX10_worthOf_32 ⟨Nat.zero_le _, Nat.zero_le _⟩ (fun r_32 hr_32 => ?_)
  have hr_32 : q_wby (T i 0) (nI (T i 1) + (ss - nI 50)) (T i 2) (q_oth T n i S) = r_32 := (show r_32 = q_wby (T i 0) (nI (T i 1) + (ss - nI 50)) (T i 2) (q_oth T n i S) from hr_32).symm
  subst hr_32
  exact q_zret (v := q_wby (T i 0) (nI (T i 1) + (ss - nI 50)) (T i 2) (q_oth T n i S)) hx hb hr hlocks (rfl) (show q_wby (T i 0) (nI (T i 1) + (ss - nI 50)) (T i 2) (q_oth T n i S) = q_wor T n ss i S from rfl) dX10_worthOf_35

set_option maxHeartbeats 4000000 in
set_option maxRecDepth 100000 in
theorem c_X10_wouldBuy (l : Launch) {D : va_G} {cI cB cZ : ClassId} {ma : Nat} {mt : Nat} {mk : Nat} {mw : Nat} {mc : Nat} {mh : Nat} {mp : Nat} {mb : Nat} {me : Nat} {wp0 : Nat} {wo0 : Nat} {wb0 : Nat} {mr : Nat} {ml : Nat} {tn : Nat} {n : Nat} {ow : Nat} {uc : Nat} {kc : Nat} {sc : Nat} {ss : Int32} {at0 : Int32} {rm0 : Int32} {ro0 : Int32} {rs0 : Int32} {mK : Nat → Int32} {mW : Nat → Int32} {mC : Nat → Int32} {mH : Nat → Int32} {T : Nat → Nat → Nat} {i : Nat} {S : Nat} (hMT : q_MT T n mK mW mC mH) (hB : q_Bd T n) (hn1 : 1 ≤ n) (hi : i < n) (hS9 : S < 2 ^ n) : Met l yX10_wouldBuy wsX10_wouldBuy ({ frames := 4, cells := 0, slots := 0, locals := 90 } : Room) (va_Pc [.ref ma, .int (nI i), .int (nI S)] (q_B D (q_tys cI cB cZ) [(ma, .inr (10, [.ref mt, .int (nI tn), .int (nI n), .ref mk, .ref mw, .ref mc, .ref mh, .ref mp, .int (nI ow), .int ss, .int (nI uc), .ref mb, .int (nI kc), .ref me, .int (nI sc), .ref wp0, .ref wo0, .ref wb0, .int at0, .int rm0, .int ro0, .int rs0, .ref mr, .ref ml])), (mk, .inl (cI, 7, .inl mK)), (mw, .inl (cI, 7, .inl mW)), (mc, .inl (cI, 7, .inl mC)), (mh, .inl (cI, 7, .inl mH))])) (vp_Si (fun r => r = bI (q_wB T n ss i S))) 0 0 (fun _ => False) := by
  refine Met.ofW (cc := cX10_wouldBuy) (maxL := 3) (ret := (some .boolean)) (by decide) rfl ?_
  intro p e s m args below meth c s₁ B hml hv
  obtain ⟨rfl, hP, hK⟩ := hv
  have hx := B.exec
  have hb := B.bytes
  have hr := B.returns
  have hts := atoms_spec (ws := wsX10_wouldBuy) B.pre
  have hown : s.vm.findClass RX10 = some m.cls := findClass_of_methodNamed B.named
  have hlocks := B.notSynchronized
  have hP : va_P D vwCl [(ma, .inr (10, [.ref mt, .int (nI tn), .int (nI n), .ref mk, .ref mw, .ref mc, .ref mh, .ref mp, .int (nI ow), .int ss, .int (nI uc), .ref mb, .int (nI kc), .ref me, .int (nI sc), .ref wp0, .ref wo0, .ref wb0, .int at0, .int rm0, .int ro0, .int rs0, .ref mr, .ref ml])), (mk, .inl (cI, 7, .inl mK)), (mw, .inl (cI, 7, .inl mW)), (mc, .inl (cI, 7, .inl mC)), (mh, .inl (cI, 7, .inl mH))] s.heap := hP
  have hl := lv_entry ([.ref ma, .int (nI i), .int (nI S)]) (n := 3) (Nat.le_of_ble_eq_true rfl)
  rw [lg_entry_eq]
  generalize (lg_sl ([.ref ma, .int (nI i), .int (nI S)]) ++ List.replicate (3 - (lg_sl ([.ref ma, .int (nI i), .int (nI S)])).length) Slot.unset).toArray = ls at hl ⊢
  have hl : lv_has ls 3 [(0, .ref ma), (1, .int (nI i)), (2, .int (nI S))] := hl
  have hn7 := hB.1
  have hp2 : 2 ^ n ≤ 128 := q_p2 hB.1
  refine lv_iload_n hx hb dX10_wouldBuy_0 rfl (lv_at hl 2 rfl) ?_
  refine lv_iload_n hx hb dX10_wouldBuy_1 rfl (lv_at hl 1 rfl) ?_
  refine q_si (As := [.int (nI S), .int (nI i)]) (rest := []) ⟨hx, hb, hml, hown, hts⟩ (c_X10_has l (D := D) (cI := cI) (cB := cB) (cZ := cZ) (S := S) (i := i) (by omega) (by omega)) (va_cwS 2 hts gX10_wouldBuy_X10_has rfl rfl rfl (by decide +kernel) ⟨Nat.le_of_ble_eq_true rfl, Nat.le_of_ble_eq_true rfl⟩) hK hP [] rfl rfl hl.1 rfl (Nat.le_of_ble_eq_true rfl) dX10_wouldBuy_2 ⟨Nat.zero_le _, Nat.zero_le _⟩ (fun r_2 hr_2 => ?_)
  have hr_2 : bI (S.testBit i) = r_2 := (show r_2 = bI (S.testBit i) from hr_2).symm
  subst hr_2
  refine q_bne (tgt := 27) hx hb dX10_wouldBuy_5 (by decide) (fun c_5 => ?_) (fun c_5 => ?_)
  · refine lv_iconst (v := nI 0) hx hb dX10_wouldBuy_27 (by decide) ?_
    exact q_zret (v := nI 0) hx hb hr hlocks (q_nar0) (show nI 0 = bI (q_wB T n ss i S) from by rw [show q_wB T n ss i S = false from by unfold q_wB; rw [c_5]; rfl]; rfl) dX10_wouldBuy_28
  · refine lv_aload_n hx hb dX10_wouldBuy_8 rfl (lv_at hl 0 rfl) ?_
    refine lv_iload_n hx hb dX10_wouldBuy_9 rfl (lv_at hl 1 rfl) ?_
    refine lv_iload_n hx hb dX10_wouldBuy_10 rfl (lv_at hl 2 rfl) ?_
    refine q_vi (As := [.int (nI i), .int (nI S)]) (rest := []) ⟨hx, hb, hml, hown, hts⟩ (c_X10_worthOf l (D := D) (cI := cI) (cB := cB) (cZ := cZ) (ma := ma) (mt := mt) (mk := mk) (mw := mw) (mc := mc) (mh := mh) (mp := mp) (mb := mb) (me := me) (wp0 := wp0) (wo0 := wo0) (wb0 := wb0) (mr := mr) (ml := ml) (tn := tn) (n := n) (ow := ow) (uc := uc) (kc := kc) (sc := sc) (ss := ss) (at0 := at0) (rm0 := rm0) (ro0 := ro0) (rs0 := rs0) (mK := mK) (mW := mW) (mC := mC) (mH := mH) (T := T) (i := i) (S := S) (by first | assumption | exact Nat.zero_le _ | omega) (by first | assumption | exact Nat.zero_le _ | omega) (by first | assumption | exact Nat.zero_le _ | omega) (by first | assumption | exact Nat.zero_le _ | omega) (by first | assumption | exact Nat.zero_le _ | omega)) (cwV 2 hts gX10_wouldBuy_X10_worthOf rfl rfl rfl (by decide +kernel) ⟨Nat.le_of_ble_eq_true rfl, Nat.le_of_ble_eq_true rfl⟩) hK hP [0, 1, 2, 3, 4] rfl 0 10 rfl rfl rfl rfl hl.1 rfl (Nat.le_of_ble_eq_true rfl) dX10_wouldBuy_11 ⟨Nat.zero_le _, Nat.zero_le _⟩ (fun r_11 hr_11 => ?_)
    have hr_11 : q_wor T n ss i S = r_11 := (show r_11 = q_wor T n ss i S from hr_11).symm
    subst hr_11
    refine lv_aload_n hx hb dX10_wouldBuy_14 rfl (lv_at hl 0 rfl) ?_
    refine lv_iload_n hx hb dX10_wouldBuy_15 rfl (lv_at hl 1 rfl) ?_
    refine lv_iload_n hx hb dX10_wouldBuy_16 rfl (lv_at hl 2 rfl) ?_
    refine q_vi (As := [.int (nI i), .int (nI S)]) (rest := [.int (q_wor T n ss i S)]) ⟨hx, hb, hml, hown, hts⟩ (c_X10_others l (D := D) (cI := cI) (cB := cB) (cZ := cZ) (ma := ma) (mt := mt) (mk := mk) (mw := mw) (mc := mc) (mh := mh) (mp := mp) (mb := mb) (me := me) (wp0 := wp0) (wo0 := wo0) (wb0 := wb0) (mr := mr) (ml := ml) (tn := tn) (n := n) (ow := ow) (uc := uc) (kc := kc) (sc := sc) (ss := ss) (at0 := at0) (rm0 := rm0) (ro0 := ro0) (rs0 := rs0) (mK := mK) (mW := mW) (mC := mC) (mH := mH) (T := T) (i := i) (S := S) (by first | assumption | exact Nat.zero_le _ | omega) (by first | assumption | exact Nat.zero_le _ | omega) (by first | assumption | exact Nat.zero_le _ | omega) (by first | assumption | exact Nat.zero_le _ | omega) (by first | assumption | exact Nat.zero_le _ | omega)) (cwV 2 hts gX10_wouldBuy_X10_others rfl rfl rfl (by decide +kernel) ⟨Nat.le_of_ble_eq_true rfl, Nat.le_of_ble_eq_true rfl⟩) hK hP [0, 1, 2, 3, 4] rfl 0 10 rfl rfl rfl rfl hl.1 rfl (Nat.le_of_ble_eq_true rfl) dX10_wouldBuy_17 ⟨Nat.zero_le _, Nat.zero_le _⟩ (fun r_17 hr_17 => ?_)
    have hr_17 : nI (q_oth T n i S) = r_17 := (show r_17 = nI (q_oth T n i S) from hr_17).symm
    subst hr_17
    refine lv_icmp_le (x := q_wor T n ss i S) (y := nI (q_oth T n i S)) (tgt := 27) hx hb dX10_wouldBuy_20 (by decide) (fun c_20 => ?_) (fun c_20 => ?_)
    · refine lv_iconst (v := nI 0) hx hb dX10_wouldBuy_27 (by decide) ?_
      exact q_zret (v := nI 0) hx hb hr hlocks (q_nar0) (show nI 0 = bI (q_wB T n ss i S) from by rw [show q_wB T n ss i S = false from by unfold q_wB; rw [c_5]; exact q_dF c_20]; rfl) dX10_wouldBuy_28
    · refine lv_iconst (v := nI 1) hx hb dX10_wouldBuy_23 (by decide) ?_
      refine lv_goto (tgt := 28) hx hb dX10_wouldBuy_24 (by decide) ?_
      exact q_zret (v := nI 1) hx hb hr hlocks (q_nar1) (show nI 1 = bI (q_wB T n ss i S) from by rw [show q_wB T n ss i S = true from by unfold q_wB; rw [c_5]; exact q_dT c_20]; rfl) dX10_wouldBuy_28

set_option maxHeartbeats 4000000 in
set_option maxRecDepth 100000 in
theorem c_X10_wouldThrow (l : Launch) {D : va_G} {cI cB cZ : ClassId} {ma : Nat} {mt : Nat} {mk : Nat} {mw : Nat} {mc : Nat} {mh : Nat} {mp : Nat} {mb : Nat} {me : Nat} {wp0 : Nat} {wo0 : Nat} {wb0 : Nat} {mr : Nat} {ml : Nat} {tn : Nat} {n : Nat} {ow : Nat} {uc : Nat} {kc : Nat} {sc : Nat} {ss : Int32} {at0 : Int32} {rm0 : Int32} {ro0 : Int32} {rs0 : Int32} {mK : Nat → Int32} {mW : Nat → Int32} {mC : Nat → Int32} {mH : Nat → Int32} {T : Nat → Nat → Nat} {i : Nat} {S : Nat} (hMT : q_MT T n mK mW mC mH) (hB : q_Bd T n) (hn1 : 1 ≤ n) (hi : i < n) (hS9 : S < 2 ^ n) : Met l yX10_wouldThrow wsX10_wouldThrow ({ frames := 4, cells := 0, slots := 0, locals := 90 } : Room) (va_Pc [.ref ma, .int (nI i), .int (nI S)] (q_B D (q_tys cI cB cZ) [(ma, .inr (10, [.ref mt, .int (nI tn), .int (nI n), .ref mk, .ref mw, .ref mc, .ref mh, .ref mp, .int (nI ow), .int ss, .int (nI uc), .ref mb, .int (nI kc), .ref me, .int (nI sc), .ref wp0, .ref wo0, .ref wb0, .int at0, .int rm0, .int ro0, .int rs0, .ref mr, .ref ml])), (mk, .inl (cI, 7, .inl mK)), (mw, .inl (cI, 7, .inl mW)), (mc, .inl (cI, 7, .inl mC)), (mh, .inl (cI, 7, .inl mH))])) (vp_Si (fun r => r = bI (q_wT T n ss i S))) 0 0 (fun _ => False) := by
  refine Met.ofW (cc := cX10_wouldThrow) (maxL := 3) (ret := (some .boolean)) (by decide) rfl ?_
  intro p e s m args below meth c s₁ B hml hv
  obtain ⟨rfl, hP, hK⟩ := hv
  have hx := B.exec
  have hb := B.bytes
  have hr := B.returns
  have hts := atoms_spec (ws := wsX10_wouldThrow) B.pre
  have hown : s.vm.findClass RX10 = some m.cls := findClass_of_methodNamed B.named
  have hlocks := B.notSynchronized
  have hP : va_P D vwCl [(ma, .inr (10, [.ref mt, .int (nI tn), .int (nI n), .ref mk, .ref mw, .ref mc, .ref mh, .ref mp, .int (nI ow), .int ss, .int (nI uc), .ref mb, .int (nI kc), .ref me, .int (nI sc), .ref wp0, .ref wo0, .ref wb0, .int at0, .int rm0, .int ro0, .int rs0, .ref mr, .ref ml])), (mk, .inl (cI, 7, .inl mK)), (mw, .inl (cI, 7, .inl mW)), (mc, .inl (cI, 7, .inl mC)), (mh, .inl (cI, 7, .inl mH))] s.heap := hP
  have hl := lv_entry ([.ref ma, .int (nI i), .int (nI S)]) (n := 3) (Nat.le_of_ble_eq_true rfl)
  rw [lg_entry_eq]
  generalize (lg_sl ([.ref ma, .int (nI i), .int (nI S)]) ++ List.replicate (3 - (lg_sl ([.ref ma, .int (nI i), .int (nI S)])).length) Slot.unset).toArray = ls at hl ⊢
  have hl : lv_has ls 3 [(0, .ref ma), (1, .int (nI i)), (2, .int (nI S))] := hl
  have hn7 := hB.1
  have hp2 : 2 ^ n ≤ 128 := q_p2 hB.1
  refine lv_iload_n hx hb dX10_wouldThrow_0 rfl (lv_at hl 2 rfl) ?_
  refine lv_iload_n hx hb dX10_wouldThrow_1 rfl (lv_at hl 1 rfl) ?_
  refine q_si (As := [.int (nI S), .int (nI i)]) (rest := []) ⟨hx, hb, hml, hown, hts⟩ (c_X10_has l (D := D) (cI := cI) (cB := cB) (cZ := cZ) (S := S) (i := i) (by omega) (by omega)) (va_cwS 2 hts gX10_wouldThrow_X10_has rfl rfl rfl (by decide +kernel) ⟨Nat.le_of_ble_eq_true rfl, Nat.le_of_ble_eq_true rfl⟩) hK hP [] rfl rfl hl.1 rfl (Nat.le_of_ble_eq_true rfl) dX10_wouldThrow_2 ⟨Nat.zero_le _, Nat.zero_le _⟩ (fun r_2 hr_2 => ?_)
  have hr_2 : bI (S.testBit i) = r_2 := (show r_2 = bI (S.testBit i) from hr_2).symm
  subst hr_2
  refine q_beq (tgt := 21) hx hb dX10_wouldThrow_5 (by decide) (fun c_5 => ?_) (fun c_5 => ?_)
  · refine lv_iconst (v := nI 0) hx hb dX10_wouldThrow_21 (by decide) ?_
    exact q_zret (v := nI 0) hx hb hr hlocks (q_nar0) (show nI 0 = bI (q_wT T n ss i S) from by rw [show q_wT T n ss i S = false from by unfold q_wT; rw [c_5]; rfl]; rfl) dX10_wouldThrow_22
  · refine lv_aload_n hx hb dX10_wouldThrow_8 rfl (lv_at hl 0 rfl) ?_
    refine lv_iload_n hx hb dX10_wouldThrow_9 rfl (lv_at hl 1 rfl) ?_
    refine lv_iload_n hx hb dX10_wouldThrow_10 rfl (lv_at hl 2 rfl) ?_
    refine q_vi (As := [.int (nI i), .int (nI S)]) (rest := []) ⟨hx, hb, hml, hown, hts⟩ (c_X10_worthOf l (D := D) (cI := cI) (cB := cB) (cZ := cZ) (ma := ma) (mt := mt) (mk := mk) (mw := mw) (mc := mc) (mh := mh) (mp := mp) (mb := mb) (me := me) (wp0 := wp0) (wo0 := wo0) (wb0 := wb0) (mr := mr) (ml := ml) (tn := tn) (n := n) (ow := ow) (uc := uc) (kc := kc) (sc := sc) (ss := ss) (at0 := at0) (rm0 := rm0) (ro0 := ro0) (rs0 := rs0) (mK := mK) (mW := mW) (mC := mC) (mH := mH) (T := T) (i := i) (S := S) (by first | assumption | exact Nat.zero_le _ | omega) (by first | assumption | exact Nat.zero_le _ | omega) (by first | assumption | exact Nat.zero_le _ | omega) (by first | assumption | exact Nat.zero_le _ | omega) (by first | assumption | exact Nat.zero_le _ | omega)) (cwV 2 hts gX10_wouldThrow_X10_worthOf rfl rfl rfl (by decide +kernel) ⟨Nat.le_of_ble_eq_true rfl, Nat.le_of_ble_eq_true rfl⟩) hK hP [0, 1, 2, 3, 4] rfl 0 10 rfl rfl rfl rfl hl.1 rfl (Nat.le_of_ble_eq_true rfl) dX10_wouldThrow_11 ⟨Nat.zero_le _, Nat.zero_le _⟩ (fun r_11 hr_11 => ?_)
    have hr_11 : q_wor T n ss i S = r_11 := (show r_11 = q_wor T n ss i S from hr_11).symm
    subst hr_11
    refine lv_if_ge (x := q_wor T n ss i S) (tgt := 21) hx hb dX10_wouldThrow_14 (by decide) (fun c_14 => ?_) (fun c_14 => ?_)
    · refine lv_iconst (v := nI 0) hx hb dX10_wouldThrow_21 (by decide) ?_
      exact q_zret (v := nI 0) hx hb hr hlocks (q_nar0) (show nI 0 = bI (q_wT T n ss i S) from by rw [show q_wT T n ss i S = false from by unfold q_wT; rw [c_5, Bool.true_and]; exact q_dF c_14]; rfl) dX10_wouldThrow_22
    · refine lv_iconst (v := nI 1) hx hb dX10_wouldThrow_17 (by decide) ?_
      refine lv_goto (tgt := 22) hx hb dX10_wouldThrow_18 (by decide) ?_
      exact q_zret (v := nI 1) hx hb hr hlocks (q_nar1) (show nI 1 = bI (q_wT T n ss i S) from by rw [show q_wT T n ss i S = true from by unfold q_wT; rw [c_5, Bool.true_and]; exact q_dT c_14]; rfl) dX10_wouldThrow_22

set_option maxHeartbeats 4000000 in
set_option maxRecDepth 100000 in
theorem c_X10_round (l : Launch) {D : va_G} {cI cB cZ : ClassId} {ma : Nat} {mt : Nat} {mk : Nat} {mw : Nat} {mc : Nat} {mh : Nat} {mp : Nat} {mb : Nat} {me : Nat} {wp0 : Nat} {wo0 : Nat} {wb0 : Nat} {mr : Nat} {ml : Nat} {tn : Nat} {n : Nat} {ow : Nat} {uc : Nat} {kc : Nat} {sc : Nat} {ss : Int32} {at0 : Int32} {rm0 : Int32} {ro0 : Int32} {rs0 : Int32} {mK : Nat → Int32} {mW : Nat → Int32} {mC : Nat → Int32} {mH : Nat → Int32} {T : Nat → Nat → Nat} {S : Nat} {t : Bool} (hMT : q_MT T n mK mW mC mH) (hB : q_Bd T n) (hn1 : 1 ≤ n) (hS9 : S < 2 ^ n) : Met l yX10_round wsX10_round ({ frames := 5, cells := 0, slots := 0, locals := 112 } : Room) (va_Pc [.ref ma, .int (nI S), .int (bI t)] (q_B D (q_tys cI cB cZ) [(ma, .inr (10, [.ref mt, .int (nI tn), .int (nI n), .ref mk, .ref mw, .ref mc, .ref mh, .ref mp, .int (nI ow), .int ss, .int (nI uc), .ref mb, .int (nI kc), .ref me, .int (nI sc), .ref wp0, .ref wo0, .ref wb0, .int at0, .int rm0, .int ro0, .int rs0, .ref mr, .ref ml])), (mk, .inl (cI, 7, .inl mK)), (mw, .inl (cI, 7, .inl mW)), (mc, .inl (cI, 7, .inl mC)), (mh, .inl (cI, 7, .inl mH))])) (vp_Si (fun r => r = nI (q_rd T n ss t S))) 0 0 (fun _ => False) := by
  refine Met.ofW (cc := cX10_round) (maxL := 6) (ret := (some .int)) (by decide) rfl ?_
  intro p e s m args below meth c s₁ B hml hv
  obtain ⟨rfl, hP, hK⟩ := hv
  have hx := B.exec
  have hb := B.bytes
  have hr := B.returns
  have hts := atoms_spec (ws := wsX10_round) B.pre
  have hown : s.vm.findClass RX10 = some m.cls := findClass_of_methodNamed B.named
  have hlocks := B.notSynchronized
  have hin10 : ∀ w ∈ u_ws RX10 TX10 24, w ∈ wsX10_round := by decide +kernel
  have hP : va_P D vwCl [(ma, .inr (10, [.ref mt, .int (nI tn), .int (nI n), .ref mk, .ref mw, .ref mc, .ref mh, .ref mp, .int (nI ow), .int ss, .int (nI uc), .ref mb, .int (nI kc), .ref me, .int (nI sc), .ref wp0, .ref wo0, .ref wb0, .int at0, .int rm0, .int ro0, .int rs0, .ref mr, .ref ml])), (mk, .inl (cI, 7, .inl mK)), (mw, .inl (cI, 7, .inl mW)), (mc, .inl (cI, 7, .inl mC)), (mh, .inl (cI, 7, .inl mH))] s.heap := hP
  have hl := lv_entry ([.ref ma, .int (nI S), .int (bI t)]) (n := 6) (Nat.le_of_ble_eq_true rfl)
  rw [lg_entry_eq]
  generalize (lg_sl ([.ref ma, .int (nI S), .int (bI t)]) ++ List.replicate (6 - (lg_sl ([.ref ma, .int (nI S), .int (bI t)])).length) Slot.unset).toArray = ls at hl ⊢
  have hl : lv_has ls 6 [(0, .ref ma), (1, .int (nI S)), (2, .int (bI t))] := hl
  have hn7 := hB.1
  have hp2 : 2 ^ n ≤ 128 := q_p2 hB.1
  have L5 : ∀ (fuel : Nat) (i : Nat) (hi : i ≤ n) (hf : n - i < fuel) (ls : Array Slot) (hl : lv_has ls 6 [(0, .ref ma), (1, .int (nI S)), (2, .int (bI t)), (3, .int (nI (q_rn T n ss t S i))), (4, .int (nI i))]), W p l e (headSpec wsX10_round ({ frames := 5, cells := 0, slots := 0, locals := 112 } : Room)).room s m ([.ref ma, .int (nI S), .int (bI t)] : List Value).toArray below meth c s.heap [] 0 0 (MQ below (vp_Si (fun r => r = nI (q_rd T n ss t S))) ([.ref ma, .int (nI S), .int (bI t)] : List Value).toArray s 0 0 (fun _ => False)) (F0 m 5 ls []) := by
    intro fuel
    induction fuel with
    | zero =>
      intro i hi hf ls hl
      exact absurd hf (Nat.not_lt_zero _)
    | succ fuel ih5 =>
      intro i hi hf ls hl
      refine lv_iload hx hb dX10_round_5 (lv_at hl 4 rfl) ?_
      refine lv_aload_n hx hb dX10_round_7 rfl (lv_at hl 0 rfl) ?_
      refine q_get (ci := 10) (CC := RX10) (T := TX10) (N := 24) (v := .int (nI n)) hx hb hts hin10 hown hK hP 0 rfl rfl 2 (by decide) (hts (.fieldLink RX10 13 "DearAsManyModel" "many" "I") (by decide +kernel)) rfl rfl dX10_round_8 ?_
      refine q_nge (tgt := 64) hx hb dX10_round_11 (by decide) (by omega) (by omega) (fun c_11 => ?_) (fun c_11 => ?_)
      · refine lv_iload_n hx hb dX10_round_64 rfl (lv_at hl 3 rfl) ?_
        exact q_zret (v := nI (q_rn T n ss t S i)) hx hb hr hlocks (rfl) (show nI (q_rn T n ss t S i) = nI (q_rd T n ss t S) from by rw [show i = n from by omega]; rfl) dX10_round_65
      · refine lv_iload_n hx hb dX10_round_14 rfl (lv_at hl 2 rfl) ?_
        refine q_beq (tgt := 22) hx hb dX10_round_15 (by decide) (fun c_15 => ?_) (fun c_15 => ?_)
        · refine lv_iload_n hx hb dX10_round_22 rfl (lv_at hl 1 rfl) ?_
          refine lv_istore (lv' := [(5, .int (nI S)), (0, .ref ma), (1, .int (nI S)), (2, .int (bI t)), (3, .int (nI (q_rn T n ss t S i))), (4, .int (nI i))]) hx hb dX10_round_23 hl (by decide) rfl (fun ls hl => ?_)
          refine lv_iload_n hx hb dX10_round_25 rfl (lv_at hl 4 rfl) ?_
          refine lv_aload_n hx hb dX10_round_26 rfl (lv_at hl 1 rfl) ?_
          refine lv_iload hx hb dX10_round_27 (lv_at hl 5 rfl) ?_
          refine lv_iload hx hb dX10_round_29 (lv_at hl 0 rfl) ?_
          refine q_vi (As := [.int (nI i), .int (nI S)]) (rest := [.int (nI (q_rn T n ss t S i))]) ⟨hx, hb, hml, hown, hts⟩ (c_X10_wouldBuy l (D := D) (cI := cI) (cB := cB) (cZ := cZ) (ma := ma) (mt := mt) (mk := mk) (mw := mw) (mc := mc) (mh := mh) (mp := mp) (mb := mb) (me := me) (wp0 := wp0) (wo0 := wo0) (wb0 := wb0) (mr := mr) (ml := ml) (tn := tn) (n := n) (ow := ow) (uc := uc) (kc := kc) (sc := sc) (ss := ss) (at0 := at0) (rm0 := rm0) (ro0 := ro0) (rs0 := rs0) (mK := mK) (mW := mW) (mC := mC) (mH := mH) (T := T) (i := i) (S := S) (by first | assumption | exact Nat.zero_le _ | omega) (by first | assumption | exact Nat.zero_le _ | omega) (by first | assumption | exact Nat.zero_le _ | omega) (by omega) (hS9)) (cwV 2 hts gX10_round_X10_wouldBuy rfl rfl rfl (by decide +kernel) ⟨Nat.le_of_ble_eq_true rfl, Nat.le_of_ble_eq_true rfl⟩) hK hP [0, 1, 2, 3, 4] rfl 0 10 rfl rfl rfl rfl hl.1 rfl (Nat.le_of_ble_eq_true rfl) dX10_round_31 ⟨Nat.zero_le _, Nat.zero_le _⟩ (fun r_31 hr_31 => ?_)
          have hr_31 : bI (q_wB T n ss i S) = r_31 := (show r_31 = bI (q_wB T n ss i S) from hr_31).symm
          subst hr_31
          refine q_bne (tgt := 48) hx hb dX10_round_34 (by decide) (fun c_34 => ?_) (fun c_34 => ?_)
          · refine lv_iconst (v := nI 1) hx hb dX10_round_48 (by decide) ?_
            refine lv_iload hx hb dX10_round_49 (lv_at hl 5 rfl) ?_
            refine q_ishl (v := nI (2 ^ i)) hx hb dX10_round_51 (q_shl1 (by omega)) ?_
            refine lv_goto (tgt := 56) hx hb dX10_round_52 (by decide) ?_
            refine q_ixor (v := nI ((q_rn T n ss t S i) ^^^ (2 ^ i))) hx hb dX10_round_56 (q_xor _ _) ?_
            refine lv_istore_n (lv' := [(3, .int (nI ((q_rn T n ss t S i) ^^^ (2 ^ i)))), (5, .int (nI S)), (0, .ref ma), (1, .int (nI S)), (2, .int (bI t)), (4, .int (nI i))]) hx hb dX10_round_57 rfl hl (by decide) rfl (fun ls hl => ?_)
            refine lv_iinc (v := nI (i + 1)) (lv' := [(4, .int (nI (i + 1))), (3, .int (nI ((q_rn T n ss t S i) ^^^ (2 ^ i)))), (5, .int (nI S)), (0, .ref ma), (1, .int (nI S)), (2, .int (bI t))]) hx hb dX10_round_58 hl (k := 5) rfl (nI_add _ 1) (by decide) rfl (fun ls hl => ?_)
            refine lv_goto (tgt := 5) hx hb dX10_round_61 (by decide) ?_
            have hl : lv_has ls 6 [(4, .int (nI (i + 1))), (3, .int (nI (q_rn T n ss t S (i + 1)))), (5, .int (nI S)), (0, .ref ma), (1, .int (nI S)), (2, .int (bI t))] := by rw [← show nI ((q_rn T n ss t S i) ^^^ (2 ^ i)) = nI (q_rn T n ss t S (i + 1)) from by rw [show q_rn T n ss t S (i + 1) = (if q_chg T n ss i (if t then q_rn T n ss t S i else S) then q_rn T n ss t S i ^^^ 2 ^ i else q_rn T n ss t S i) from rfl, if_neg (c := t = true) (by rw [c_15]; decide), if_pos (q_chg1 c_34)]]; exact hl
            exact ih5 (i + 1) (by first | assumption | exact Nat.zero_le _ | omega) (by omega) ls (lv_sub hl [3, 4, 5, 1, 0] rfl)
          · refine lv_aload_n hx hb dX10_round_37 rfl (lv_at hl 1 rfl) ?_
            refine lv_iload hx hb dX10_round_38 (lv_at hl 5 rfl) ?_
            refine lv_iload hx hb dX10_round_40 (lv_at hl 0 rfl) ?_
            refine q_vi (As := [.int (nI i), .int (nI S)]) (rest := [.int (nI (q_rn T n ss t S i))]) ⟨hx, hb, hml, hown, hts⟩ (c_X10_wouldThrow l (D := D) (cI := cI) (cB := cB) (cZ := cZ) (ma := ma) (mt := mt) (mk := mk) (mw := mw) (mc := mc) (mh := mh) (mp := mp) (mb := mb) (me := me) (wp0 := wp0) (wo0 := wo0) (wb0 := wb0) (mr := mr) (ml := ml) (tn := tn) (n := n) (ow := ow) (uc := uc) (kc := kc) (sc := sc) (ss := ss) (at0 := at0) (rm0 := rm0) (ro0 := ro0) (rs0 := rs0) (mK := mK) (mW := mW) (mC := mC) (mH := mH) (T := T) (i := i) (S := S) (by first | assumption | exact Nat.zero_le _ | omega) (by first | assumption | exact Nat.zero_le _ | omega) (by first | assumption | exact Nat.zero_le _ | omega) (by omega) (hS9)) (cwV 2 hts gX10_round_X10_wouldThrow rfl rfl rfl (by decide +kernel) ⟨Nat.le_of_ble_eq_true rfl, Nat.le_of_ble_eq_true rfl⟩) hK hP [0, 1, 2, 3, 4] rfl 0 10 rfl rfl rfl rfl hl.1 rfl (Nat.le_of_ble_eq_true rfl) dX10_round_42 ⟨Nat.zero_le _, Nat.zero_le _⟩ (fun r_42 hr_42 => ?_)
            have hr_42 : bI (q_wT T n ss i S) = r_42 := (show r_42 = bI (q_wT T n ss i S) from hr_42).symm
            subst hr_42
            refine q_beq (tgt := 55) hx hb dX10_round_45 (by decide) (fun c_45 => ?_) (fun c_45 => ?_)
            · refine lv_iconst (v := nI 0) hx hb dX10_round_55 (by decide) ?_
              refine q_ixor (v := nI ((q_rn T n ss t S i) ^^^ 0)) hx hb dX10_round_56 (q_xor _ _) ?_
              refine lv_istore_n (lv' := [(3, .int (nI ((q_rn T n ss t S i) ^^^ 0))), (5, .int (nI S)), (0, .ref ma), (1, .int (nI S)), (2, .int (bI t)), (4, .int (nI i))]) hx hb dX10_round_57 rfl hl (by decide) rfl (fun ls hl => ?_)
              refine lv_iinc (v := nI (i + 1)) (lv' := [(4, .int (nI (i + 1))), (3, .int (nI ((q_rn T n ss t S i) ^^^ 0))), (5, .int (nI S)), (0, .ref ma), (1, .int (nI S)), (2, .int (bI t))]) hx hb dX10_round_58 hl (k := 5) rfl (nI_add _ 1) (by decide) rfl (fun ls hl => ?_)
              refine lv_goto (tgt := 5) hx hb dX10_round_61 (by decide) ?_
              have hl : lv_has ls 6 [(4, .int (nI (i + 1))), (3, .int (nI (q_rn T n ss t S (i + 1)))), (5, .int (nI S)), (0, .ref ma), (1, .int (nI S)), (2, .int (bI t))] := by rw [← show nI ((q_rn T n ss t S i) ^^^ 0) = nI (q_rn T n ss t S (i + 1)) from by rw [Nat.xor_zero, show q_rn T n ss t S (i + 1) = (if q_chg T n ss i (if t then q_rn T n ss t S i else S) then q_rn T n ss t S i ^^^ 2 ^ i else q_rn T n ss t S i) from rfl, if_neg (c := t = true) (by rw [c_15]; decide), if_neg (by rw [q_chg0 c_34 c_45]; decide)]]; exact hl
              exact ih5 (i + 1) (by first | assumption | exact Nat.zero_le _ | omega) (by omega) ls (lv_sub hl [3, 4, 5, 1, 0] rfl)
            · refine lv_iconst (v := nI 1) hx hb dX10_round_48 (by decide) ?_
              refine lv_iload hx hb dX10_round_49 (lv_at hl 5 rfl) ?_
              refine q_ishl (v := nI (2 ^ i)) hx hb dX10_round_51 (q_shl1 (by omega)) ?_
              refine lv_goto (tgt := 56) hx hb dX10_round_52 (by decide) ?_
              refine q_ixor (v := nI ((q_rn T n ss t S i) ^^^ (2 ^ i))) hx hb dX10_round_56 (q_xor _ _) ?_
              refine lv_istore_n (lv' := [(3, .int (nI ((q_rn T n ss t S i) ^^^ (2 ^ i)))), (5, .int (nI S)), (0, .ref ma), (1, .int (nI S)), (2, .int (bI t)), (4, .int (nI i))]) hx hb dX10_round_57 rfl hl (by decide) rfl (fun ls hl => ?_)
              refine lv_iinc (v := nI (i + 1)) (lv' := [(4, .int (nI (i + 1))), (3, .int (nI ((q_rn T n ss t S i) ^^^ (2 ^ i)))), (5, .int (nI S)), (0, .ref ma), (1, .int (nI S)), (2, .int (bI t))]) hx hb dX10_round_58 hl (k := 5) rfl (nI_add _ 1) (by decide) rfl (fun ls hl => ?_)
              refine lv_goto (tgt := 5) hx hb dX10_round_61 (by decide) ?_
              have hl : lv_has ls 6 [(4, .int (nI (i + 1))), (3, .int (nI (q_rn T n ss t S (i + 1)))), (5, .int (nI S)), (0, .ref ma), (1, .int (nI S)), (2, .int (bI t))] := by rw [← show nI ((q_rn T n ss t S i) ^^^ (2 ^ i)) = nI (q_rn T n ss t S (i + 1)) from by rw [show q_rn T n ss t S (i + 1) = (if q_chg T n ss i (if t then q_rn T n ss t S i else S) then q_rn T n ss t S i ^^^ 2 ^ i else q_rn T n ss t S i) from rfl, if_neg (c := t = true) (by rw [c_15]; decide), if_pos (q_chg2 c_45)]]; exact hl
              exact ih5 (i + 1) (by first | assumption | exact Nat.zero_le _ | omega) (by omega) ls (lv_sub hl [3, 4, 5, 1, 0] rfl)
        · refine lv_iload_n hx hb dX10_round_18 rfl (lv_at hl 3 rfl) ?_
          refine lv_goto (tgt := 23) hx hb dX10_round_19 (by decide) ?_
          refine lv_istore (lv' := [(5, .int (nI (q_rn T n ss t S i))), (0, .ref ma), (1, .int (nI S)), (2, .int (bI t)), (3, .int (nI (q_rn T n ss t S i))), (4, .int (nI i))]) hx hb dX10_round_23 hl (by decide) rfl (fun ls hl => ?_)
          refine lv_iload_n hx hb dX10_round_25 rfl (lv_at hl 4 rfl) ?_
          refine lv_aload_n hx hb dX10_round_26 rfl (lv_at hl 1 rfl) ?_
          refine lv_iload hx hb dX10_round_27 (lv_at hl 5 rfl) ?_
          refine lv_iload hx hb dX10_round_29 (lv_at hl 0 rfl) ?_
          refine q_vi (As := [.int (nI i), .int (nI (q_rn T n ss t S i))]) (rest := [.int (nI (q_rn T n ss t S i))]) ⟨hx, hb, hml, hown, hts⟩ (c_X10_wouldBuy l (D := D) (cI := cI) (cB := cB) (cZ := cZ) (ma := ma) (mt := mt) (mk := mk) (mw := mw) (mc := mc) (mh := mh) (mp := mp) (mb := mb) (me := me) (wp0 := wp0) (wo0 := wo0) (wb0 := wb0) (mr := mr) (ml := ml) (tn := tn) (n := n) (ow := ow) (uc := uc) (kc := kc) (sc := sc) (ss := ss) (at0 := at0) (rm0 := rm0) (ro0 := ro0) (rs0 := rs0) (mK := mK) (mW := mW) (mC := mC) (mH := mH) (T := T) (i := i) (S := q_rn T n ss t S i) (by first | assumption | exact Nat.zero_le _ | omega) (by first | assumption | exact Nat.zero_le _ | omega) (by first | assumption | exact Nat.zero_le _ | omega) (by omega) (q_rn_lt hS9 hi)) (cwV 2 hts gX10_round_X10_wouldBuy rfl rfl rfl (by decide +kernel) ⟨Nat.le_of_ble_eq_true rfl, Nat.le_of_ble_eq_true rfl⟩) hK hP [0, 1, 2, 3, 4] rfl 0 10 rfl rfl rfl rfl hl.1 rfl (Nat.le_of_ble_eq_true rfl) dX10_round_31 ⟨Nat.zero_le _, Nat.zero_le _⟩ (fun r_31 hr_31 => ?_)
          have hr_31 : bI (q_wB T n ss i (q_rn T n ss t S i)) = r_31 := (show r_31 = bI (q_wB T n ss i (q_rn T n ss t S i)) from hr_31).symm
          subst hr_31
          refine q_bne (tgt := 48) hx hb dX10_round_34 (by decide) (fun c_34 => ?_) (fun c_34 => ?_)
          · refine lv_iconst (v := nI 1) hx hb dX10_round_48 (by decide) ?_
            refine lv_iload hx hb dX10_round_49 (lv_at hl 5 rfl) ?_
            refine q_ishl (v := nI (2 ^ i)) hx hb dX10_round_51 (q_shl1 (by omega)) ?_
            refine lv_goto (tgt := 56) hx hb dX10_round_52 (by decide) ?_
            refine q_ixor (v := nI ((q_rn T n ss t S i) ^^^ (2 ^ i))) hx hb dX10_round_56 (q_xor _ _) ?_
            refine lv_istore_n (lv' := [(3, .int (nI ((q_rn T n ss t S i) ^^^ (2 ^ i)))), (5, .int (nI (q_rn T n ss t S i))), (0, .ref ma), (1, .int (nI S)), (2, .int (bI t)), (4, .int (nI i))]) hx hb dX10_round_57 rfl hl (by decide) rfl (fun ls hl => ?_)
            refine lv_iinc (v := nI (i + 1)) (lv' := [(4, .int (nI (i + 1))), (3, .int (nI ((q_rn T n ss t S i) ^^^ (2 ^ i)))), (5, .int (nI (q_rn T n ss t S i))), (0, .ref ma), (1, .int (nI S)), (2, .int (bI t))]) hx hb dX10_round_58 hl (k := 5) rfl (nI_add _ 1) (by decide) rfl (fun ls hl => ?_)
            refine lv_goto (tgt := 5) hx hb dX10_round_61 (by decide) ?_
            have hl : lv_has ls 6 [(4, .int (nI (i + 1))), (3, .int (nI (q_rn T n ss t S (i + 1)))), (5, .int (nI (q_rn T n ss t S i))), (0, .ref ma), (1, .int (nI S)), (2, .int (bI t))] := by rw [← show nI ((q_rn T n ss t S i) ^^^ (2 ^ i)) = nI (q_rn T n ss t S (i + 1)) from by rw [show q_rn T n ss t S (i + 1) = (if q_chg T n ss i (if t then q_rn T n ss t S i else S) then q_rn T n ss t S i ^^^ 2 ^ i else q_rn T n ss t S i) from rfl, if_pos (c := t = true) c_15, if_pos (q_chg1 c_34)]]; exact hl
            exact ih5 (i + 1) (by first | assumption | exact Nat.zero_le _ | omega) (by omega) ls (lv_sub hl [3, 4, 5, 1, 0] rfl)
          · refine lv_aload_n hx hb dX10_round_37 rfl (lv_at hl 1 rfl) ?_
            refine lv_iload hx hb dX10_round_38 (lv_at hl 5 rfl) ?_
            refine lv_iload hx hb dX10_round_40 (lv_at hl 0 rfl) ?_
            refine q_vi (As := [.int (nI i), .int (nI (q_rn T n ss t S i))]) (rest := [.int (nI (q_rn T n ss t S i))]) ⟨hx, hb, hml, hown, hts⟩ (c_X10_wouldThrow l (D := D) (cI := cI) (cB := cB) (cZ := cZ) (ma := ma) (mt := mt) (mk := mk) (mw := mw) (mc := mc) (mh := mh) (mp := mp) (mb := mb) (me := me) (wp0 := wp0) (wo0 := wo0) (wb0 := wb0) (mr := mr) (ml := ml) (tn := tn) (n := n) (ow := ow) (uc := uc) (kc := kc) (sc := sc) (ss := ss) (at0 := at0) (rm0 := rm0) (ro0 := ro0) (rs0 := rs0) (mK := mK) (mW := mW) (mC := mC) (mH := mH) (T := T) (i := i) (S := q_rn T n ss t S i) (by first | assumption | exact Nat.zero_le _ | omega) (by first | assumption | exact Nat.zero_le _ | omega) (by first | assumption | exact Nat.zero_le _ | omega) (by omega) (q_rn_lt hS9 hi)) (cwV 2 hts gX10_round_X10_wouldThrow rfl rfl rfl (by decide +kernel) ⟨Nat.le_of_ble_eq_true rfl, Nat.le_of_ble_eq_true rfl⟩) hK hP [0, 1, 2, 3, 4] rfl 0 10 rfl rfl rfl rfl hl.1 rfl (Nat.le_of_ble_eq_true rfl) dX10_round_42 ⟨Nat.zero_le _, Nat.zero_le _⟩ (fun r_42 hr_42 => ?_)
            have hr_42 : bI (q_wT T n ss i (q_rn T n ss t S i)) = r_42 := (show r_42 = bI (q_wT T n ss i (q_rn T n ss t S i)) from hr_42).symm
            subst hr_42
            refine q_beq (tgt := 55) hx hb dX10_round_45 (by decide) (fun c_45 => ?_) (fun c_45 => ?_)
            · refine lv_iconst (v := nI 0) hx hb dX10_round_55 (by decide) ?_
              refine q_ixor (v := nI ((q_rn T n ss t S i) ^^^ 0)) hx hb dX10_round_56 (q_xor _ _) ?_
              refine lv_istore_n (lv' := [(3, .int (nI ((q_rn T n ss t S i) ^^^ 0))), (5, .int (nI (q_rn T n ss t S i))), (0, .ref ma), (1, .int (nI S)), (2, .int (bI t)), (4, .int (nI i))]) hx hb dX10_round_57 rfl hl (by decide) rfl (fun ls hl => ?_)
              refine lv_iinc (v := nI (i + 1)) (lv' := [(4, .int (nI (i + 1))), (3, .int (nI ((q_rn T n ss t S i) ^^^ 0))), (5, .int (nI (q_rn T n ss t S i))), (0, .ref ma), (1, .int (nI S)), (2, .int (bI t))]) hx hb dX10_round_58 hl (k := 5) rfl (nI_add _ 1) (by decide) rfl (fun ls hl => ?_)
              refine lv_goto (tgt := 5) hx hb dX10_round_61 (by decide) ?_
              have hl : lv_has ls 6 [(4, .int (nI (i + 1))), (3, .int (nI (q_rn T n ss t S (i + 1)))), (5, .int (nI (q_rn T n ss t S i))), (0, .ref ma), (1, .int (nI S)), (2, .int (bI t))] := by rw [← show nI ((q_rn T n ss t S i) ^^^ 0) = nI (q_rn T n ss t S (i + 1)) from by rw [Nat.xor_zero, show q_rn T n ss t S (i + 1) = (if q_chg T n ss i (if t then q_rn T n ss t S i else S) then q_rn T n ss t S i ^^^ 2 ^ i else q_rn T n ss t S i) from rfl, if_pos (c := t = true) c_15, if_neg (by rw [q_chg0 c_34 c_45]; decide)]]; exact hl
              exact ih5 (i + 1) (by first | assumption | exact Nat.zero_le _ | omega) (by omega) ls (lv_sub hl [3, 4, 5, 1, 0] rfl)
            · refine lv_iconst (v := nI 1) hx hb dX10_round_48 (by decide) ?_
              refine lv_iload hx hb dX10_round_49 (lv_at hl 5 rfl) ?_
              refine q_ishl (v := nI (2 ^ i)) hx hb dX10_round_51 (q_shl1 (by omega)) ?_
              refine lv_goto (tgt := 56) hx hb dX10_round_52 (by decide) ?_
              refine q_ixor (v := nI ((q_rn T n ss t S i) ^^^ (2 ^ i))) hx hb dX10_round_56 (q_xor _ _) ?_
              refine lv_istore_n (lv' := [(3, .int (nI ((q_rn T n ss t S i) ^^^ (2 ^ i)))), (5, .int (nI (q_rn T n ss t S i))), (0, .ref ma), (1, .int (nI S)), (2, .int (bI t)), (4, .int (nI i))]) hx hb dX10_round_57 rfl hl (by decide) rfl (fun ls hl => ?_)
              refine lv_iinc (v := nI (i + 1)) (lv' := [(4, .int (nI (i + 1))), (3, .int (nI ((q_rn T n ss t S i) ^^^ (2 ^ i)))), (5, .int (nI (q_rn T n ss t S i))), (0, .ref ma), (1, .int (nI S)), (2, .int (bI t))]) hx hb dX10_round_58 hl (k := 5) rfl (nI_add _ 1) (by decide) rfl (fun ls hl => ?_)
              refine lv_goto (tgt := 5) hx hb dX10_round_61 (by decide) ?_
              have hl : lv_has ls 6 [(4, .int (nI (i + 1))), (3, .int (nI (q_rn T n ss t S (i + 1)))), (5, .int (nI (q_rn T n ss t S i))), (0, .ref ma), (1, .int (nI S)), (2, .int (bI t))] := by rw [← show nI ((q_rn T n ss t S i) ^^^ (2 ^ i)) = nI (q_rn T n ss t S (i + 1)) from by rw [show q_rn T n ss t S (i + 1) = (if q_chg T n ss i (if t then q_rn T n ss t S i else S) then q_rn T n ss t S i ^^^ 2 ^ i else q_rn T n ss t S i) from rfl, if_pos (c := t = true) c_15, if_pos (q_chg2 c_45)]]; exact hl
              exact ih5 (i + 1) (by first | assumption | exact Nat.zero_le _ | omega) (by omega) ls (lv_sub hl [3, 4, 5, 1, 0] rfl)
  refine lv_iload_n hx hb dX10_round_0 rfl (lv_at hl 1 rfl) ?_
  refine lv_istore_n (lv' := [(3, .int (nI S)), (0, .ref ma), (1, .int (nI S)), (2, .int (bI t))]) hx hb dX10_round_1 rfl hl (by decide) rfl (fun ls hl => ?_)
  refine lv_iconst (v := nI 0) hx hb dX10_round_2 (by decide) ?_
  refine lv_istore (lv' := [(4, .int (nI 0)), (3, .int (nI S)), (0, .ref ma), (1, .int (nI S)), (2, .int (bI t))]) hx hb dX10_round_3 hl (by decide) rfl (fun ls hl => ?_)
  exact L5 _ 0 (by first | assumption | exact Nat.zero_le _ | omega) (Nat.lt_succ_self _) ls (lv_sub hl [2, 3, 4, 1, 0] rfl)

set_option maxHeartbeats 4000000 in
set_option maxRecDepth 100000 in
theorem c_X10_tells (l : Launch) {D : va_G} {cI cB cZ : ClassId} {ma : Nat} {mt : Nat} {mk : Nat} {mw : Nat} {mc : Nat} {mh : Nat} {mp : Nat} {mb : Nat} {me : Nat} {wp0 : Nat} {wo0 : Nat} {wb0 : Nat} {mr : Nat} {ml : Nat} {tn : Nat} {n : Nat} {ow : Nat} {uc : Nat} {kc : Nat} {sc : Nat} {ss : Int32} {at0 : Int32} {rm0 : Int32} {ro0 : Int32} {rs0 : Int32} {mK : Nat → Int32} {mW : Nat → Int32} {mC : Nat → Int32} {mH : Nat → Int32} {T : Nat → Nat → Nat} {t : Bool} {mL : Nat → Int32} {zz : Nat} (hMT : q_MT T n mK mW mC mH) (hB : q_Bd T n) (hn1 : 1 ≤ n) : Met l yX10_tells wsX10_tells ({ frames := 6, cells := 0, slots := 0, locals := 137 } : Room) (va_Pc [.ref ma, .int (bI t)] (q_M D (q_tys cI cB cZ) [(ma, .inr (10, [.ref mt, .int (nI tn), .int (nI n), .ref mk, .ref mw, .ref mc, .ref mh, .ref mp, .int (nI ow), .int ss, .int (nI uc), .ref mb, .int (nI kc), .ref me, .int (nI sc), .ref wp0, .ref wo0, .ref wb0, .int at0, .int rm0, .int ro0, .int rs0, .ref mr, .ref ml])), (mk, .inl (cI, 7, .inl mK)), (mw, .inl (cI, 7, .inl mW)), (mc, .inl (cI, 7, .inl mC)), (mh, .inl (cI, 7, .inl mH)), (ml, .inl (cI, 128, .inl mL))] zz)) (va_Qv (S := (Nat → Int32)) (fun u => ∀ S, S < 2 ^ n → u S = nI (q_rd T n ss t S)) (fun u t => va_P D vwCl ((fun u => [(ma, .inr (10, [.ref mt, .int (nI tn), .int (nI n), .ref mk, .ref mw, .ref mc, .ref mh, .ref mp, .int (nI ow), .int ss, .int (nI uc), .ref mb, .int (nI kc), .ref me, .int (nI sc), .ref wp0, .ref wo0, .ref wb0, .int at0, .int rm0, .int ro0, .int rs0, .ref mr, .ref ml])), (mk, .inl (cI, 7, .inl mK)), (mw, .inl (cI, 7, .inl mW)), (mc, .inl (cI, 7, .inl mC)), (mh, .inl (cI, 7, .inl mH)), (ml, .inl (cI, 128, .inl u))]) u) t.heap) (va_A [(ma, .inr (10, [.ref mt, .int (nI tn), .int (nI n), .ref mk, .ref mw, .ref mc, .ref mh, .ref mp, .int (nI ow), .int ss, .int (nI uc), .ref mb, .int (nI kc), .ref me, .int (nI sc), .ref wp0, .ref wo0, .ref wb0, .int at0, .int rm0, .int ro0, .int rs0, .ref mr, .ref ml])), (mk, .inl (cI, 7, .inl mK)), (mw, .inl (cI, 7, .inl mW)), (mc, .inl (cI, 7, .inl mC)), (mh, .inl (cI, 7, .inl mH)), (ml, .inl (cI, 128, .inl mL))] zz)) 0 0 (va_A [(ma, .inr (10, [.ref mt, .int (nI tn), .int (nI n), .ref mk, .ref mw, .ref mc, .ref mh, .ref mp, .int (nI ow), .int ss, .int (nI uc), .ref mb, .int (nI kc), .ref me, .int (nI sc), .ref wp0, .ref wo0, .ref wb0, .int at0, .int rm0, .int ro0, .int rs0, .ref mr, .ref ml])), (mk, .inl (cI, 7, .inl mK)), (mw, .inl (cI, 7, .inl mW)), (mc, .inl (cI, 7, .inl mC)), (mh, .inl (cI, 7, .inl mH)), (ml, .inl (cI, 128, .inl mL))] zz) := by
  refine Met.ofW (cc := cX10_tells) (maxL := 3) (ret := none) (by decide) rfl ?_
  intro p e s m args below meth c s₁ B hml hv
  obtain ⟨rfl, hsz, hP, hK, hD0⟩ := hv
  have hx := B.exec
  have hb := B.bytes
  have hr := B.returns
  have hts := atoms_spec (ws := wsX10_tells) B.pre
  have hown : s.vm.findClass RX10 = some m.cls := findClass_of_methodNamed B.named
  have hlocks := B.notSynchronized
  have hin10 : ∀ w ∈ u_ws RX10 TX10 24, w ∈ wsX10_tells := by decide +kernel
  subst hsz
  have hD := hD0.self (sz := s.heap.size)
  generalize hAe : va_A [(ma, .inr (10, [.ref mt, .int (nI tn), .int (nI n), .ref mk, .ref mw, .ref mc, .ref mh, .ref mp, .int (nI ow), .int ss, .int (nI uc), .ref mb, .int (nI kc), .ref me, .int (nI sc), .ref wp0, .ref wo0, .ref wb0, .int at0, .int rm0, .int ro0, .int rs0, .ref mr, .ref ml])), (mk, .inl (cI, 7, .inl mK)), (mw, .inl (cI, 7, .inl mW)), (mc, .inl (cI, 7, .inl mC)), (mh, .inl (cI, 7, .inl mH)), (ml, .inl (cI, 128, .inl mL))] s.heap.size = A at hD ⊢
  have hA : ∀ q : Nat, s.heap.size ≤ q → A q := fun q h => by rw [← hAe]; exact Or.inr h
  have hS : va_S A s.heap s.heap [] := va_S.rf
  have hP : va_P D vwCl [(ma, .inr (10, [.ref mt, .int (nI tn), .int (nI n), .ref mk, .ref mw, .ref mc, .ref mh, .ref mp, .int (nI ow), .int ss, .int (nI uc), .ref mb, .int (nI kc), .ref me, .int (nI sc), .ref wp0, .ref wo0, .ref wb0, .int at0, .int rm0, .int ro0, .int rs0, .ref mr, .ref ml])), (mk, .inl (cI, 7, .inl mK)), (mw, .inl (cI, 7, .inl mW)), (mc, .inl (cI, 7, .inl mC)), (mh, .inl (cI, 7, .inl mH)), (ml, .inl (cI, 128, .inl mL))] s.heap := hP
  have hl := lv_entry ([.ref ma, .int (bI t)]) (n := 3) (Nat.le_of_ble_eq_true rfl)
  rw [lg_entry_eq]
  generalize (lg_sl ([.ref ma, .int (bI t)]) ++ List.replicate (3 - (lg_sl ([.ref ma, .int (bI t)])).length) Slot.unset).toArray = ls at hl ⊢
  have hl : lv_has ls 3 [(0, .ref ma), (1, .int (bI t))] := hl
  have hn7 := hB.1
  have hp2 : 2 ^ n ≤ 128 := q_p2 hB.1
  have hpp := Nat.two_pow_pos n
  have L2 : ∀ (fuel : Nat) (sv : Nat) (g : Nat → Int32) (hs : sv ≤ 2 ^ n) (hg : ∀ S, S < sv → g S = nI (q_rd T n ss t S)) (hf : 2 ^ n - sv < fuel) (H : Heap) (locs : List Loc) (hP : va_P D vwCl [(ma, .inr (10, [.ref mt, .int (nI tn), .int (nI n), .ref mk, .ref mw, .ref mc, .ref mh, .ref mp, .int (nI ow), .int ss, .int (nI uc), .ref mb, .int (nI kc), .ref me, .int (nI sc), .ref wp0, .ref wo0, .ref wb0, .int at0, .int rm0, .int ro0, .int rs0, .ref mr, .ref ml])), (mk, .inl (cI, 7, .inl mK)), (mw, .inl (cI, 7, .inl mW)), (mc, .inl (cI, 7, .inl mC)), (mh, .inl (cI, 7, .inl mH)), (ml, .inl (cI, 128, .inl g))] H) (hD : va_D A [(ma, .inr (10, [.ref mt, .int (nI tn), .int (nI n), .ref mk, .ref mw, .ref mc, .ref mh, .ref mp, .int (nI ow), .int ss, .int (nI uc), .ref mb, .int (nI kc), .ref me, .int (nI sc), .ref wp0, .ref wo0, .ref wb0, .int at0, .int rm0, .int ro0, .int rs0, .ref mr, .ref ml])), (mk, .inl (cI, 7, .inl mK)), (mw, .inl (cI, 7, .inl mW)), (mc, .inl (cI, 7, .inl mC)), (mh, .inl (cI, 7, .inl mH)), (ml, .inl (cI, 128, .inl g))]) (hS : va_S A s.heap H locs) (ls : Array Slot) (hl : lv_has ls 3 [(0, .ref ma), (1, .int (bI t)), (2, .int (nI sv))]), W p l e (headSpec wsX10_tells ({ frames := 6, cells := 0, slots := 0, locals := 137 } : Room)).room s m ([.ref ma, .int (bI t)] : List Value).toArray below meth c H locs 0 0 (MQ below (va_Qv (S := (Nat → Int32)) (fun u => ∀ S, S < 2 ^ n → u S = nI (q_rd T n ss t S)) (fun u t => va_P D vwCl ((fun u => [(ma, .inr (10, [.ref mt, .int (nI tn), .int (nI n), .ref mk, .ref mw, .ref mc, .ref mh, .ref mp, .int (nI ow), .int ss, .int (nI uc), .ref mb, .int (nI kc), .ref me, .int (nI sc), .ref wp0, .ref wo0, .ref wb0, .int at0, .int rm0, .int ro0, .int rs0, .ref mr, .ref ml])), (mk, .inl (cI, 7, .inl mK)), (mw, .inl (cI, 7, .inl mW)), (mc, .inl (cI, 7, .inl mC)), (mh, .inl (cI, 7, .inl mH)), (ml, .inl (cI, 128, .inl u))]) u) t.heap) A) ([.ref ma, .int (bI t)] : List Value).toArray s 0 0 A) (F0 m 2 ls []) := by
    intro fuel
    induction fuel with
    | zero =>
      intro sv g hs hg hf H locs hP hD hS ls hl
      exact absurd hf (Nat.not_lt_zero _)
    | succ fuel ih2 =>
      intro sv g hs hg hf H locs hP hD hS ls hl
      refine lv_iload_n hx hb dX10_tells_2 rfl (lv_at hl 2 rfl) ?_
      refine lv_aload_n hx hb dX10_tells_3 rfl (lv_at hl 0 rfl) ?_
      refine q_vi (As := []) (rest := [.int (nI sv)]) ⟨hx, hb, hml, hown, hts⟩ (c_X10_all l (D := D) (cI := cI) (cB := cB) (cZ := cZ) (ma := ma) (mt := mt) (mk := mk) (mw := mw) (mc := mc) (mh := mh) (mp := mp) (mb := mb) (me := me) (wp0 := wp0) (wo0 := wo0) (wb0 := wb0) (mr := mr) (ml := ml) (tn := tn) (n := n) (ow := ow) (uc := uc) (kc := kc) (sc := sc) (ss := ss) (at0 := at0) (rm0 := rm0) (ro0 := ro0) (rs0 := rs0) (by first | assumption | exact Nat.zero_le _ | omega)) (cwV 0 hts gX10_tells_X10_all rfl rfl rfl (by decide +kernel) ⟨Nat.le_of_ble_eq_true rfl, Nat.le_of_ble_eq_true rfl⟩) hK hP [0] rfl 0 10 rfl rfl rfl rfl hl.1 rfl (Nat.le_of_ble_eq_true rfl) dX10_tells_4 ⟨Nat.zero_le _, Nat.zero_le _⟩ (fun r_4 hr_4 => ?_)
      have hr_4 : nI (2 ^ n - 1) = r_4 := (show r_4 = nI (2 ^ n - 1) from hr_4).symm
      subst hr_4
      refine q_ngt (tgt := 28) hx hb dX10_tells_7 (by decide) (by omega) (by omega) (fun c_7 => ?_) (fun c_7 => ?_)
      · exact q_mretv (S := (Nat → Int32)) (w1 := fun u => [(ma, .inr (10, [.ref mt, .int (nI tn), .int (nI n), .ref mk, .ref mw, .ref mc, .ref mh, .ref mp, .int (nI ow), .int ss, .int (nI uc), .ref mb, .int (nI kc), .ref me, .int (nI sc), .ref wp0, .ref wo0, .ref wb0, .int at0, .int rm0, .int ro0, .int rs0, .ref mr, .ref ml])), (mk, .inl (cI, 7, .inl mK)), (mw, .inl (cI, 7, .inl mW)), (mc, .inl (cI, 7, .inl mC)), (mh, .inl (cI, 7, .inl mH)), (ml, .inl (cI, 128, .inl u))]) g hx hb hr hlocks hP hS dX10_tells_28 (by exact fun S hS9 => hg S (by omega))
      · refine lv_aload_n hx hb dX10_tells_10 rfl (lv_at hl 0 rfl) ?_
        refine q_get (ci := 10) (CC := RX10) (T := TX10) (N := 24) (v := .ref ml) hx hb hts hin10 hown hK hP 0 rfl rfl 23 (by decide) (hts (.fieldLink RX10 54 "DearAsManyModel" "leads" "[I") (by decide +kernel)) rfl rfl dX10_tells_11 ?_
        refine lv_iload_n hx hb dX10_tells_14 rfl (lv_at hl 2 rfl) ?_
        refine lv_aload_n hx hb dX10_tells_15 rfl (lv_at hl 0 rfl) ?_
        refine lv_iload_n hx hb dX10_tells_16 rfl (lv_at hl 2 rfl) ?_
        refine lv_iload_n hx hb dX10_tells_17 rfl (lv_at hl 1 rfl) ?_
        refine q_vi (As := [.int (nI sv), .int (bI t)]) (rest := [.int (nI sv), .ref ml]) ⟨hx, hb, hml, hown, hts⟩ (c_X10_round l (D := D) (cI := cI) (cB := cB) (cZ := cZ) (ma := ma) (mt := mt) (mk := mk) (mw := mw) (mc := mc) (mh := mh) (mp := mp) (mb := mb) (me := me) (wp0 := wp0) (wo0 := wo0) (wb0 := wb0) (mr := mr) (ml := ml) (tn := tn) (n := n) (ow := ow) (uc := uc) (kc := kc) (sc := sc) (ss := ss) (at0 := at0) (rm0 := rm0) (ro0 := ro0) (rs0 := rs0) (mK := mK) (mW := mW) (mC := mC) (mH := mH) (T := T) (S := sv) (t := t) (by first | assumption | exact Nat.zero_le _ | omega) (by first | assumption | exact Nat.zero_le _ | omega) (by first | assumption | exact Nat.zero_le _ | omega) (by omega)) (cwV 2 hts gX10_tells_X10_round rfl rfl rfl (by decide +kernel) ⟨Nat.le_of_ble_eq_true rfl, Nat.le_of_ble_eq_true rfl⟩) hK hP [0, 1, 2, 3, 4] rfl 0 10 rfl rfl rfl rfl hl.1 rfl (Nat.le_of_ble_eq_true rfl) dX10_tells_18 ⟨Nat.zero_le _, Nat.zero_le _⟩ (fun r_18 hr_18 => ?_)
        have hr_18 : nI (q_rd T n ss t sv) = r_18 := (show r_18 = nI (q_rd T n ss t sv) from hr_18).symm
        subst hr_18
        refine q_ast (w2 := [(ma, .inr (10, [.ref mt, .int (nI tn), .int (nI n), .ref mk, .ref mw, .ref mc, .ref mh, .ref mp, .int (nI ow), .int ss, .int (nI uc), .ref mb, .int (nI kc), .ref me, .int (nI sc), .ref wp0, .ref wo0, .ref wb0, .int at0, .int rm0, .int ro0, .int rs0, .ref mr, .ref ml])), (mk, .inl (cI, 7, .inl mK)), (mw, .inl (cI, 7, .inl mW)), (mc, .inl (cI, 7, .inl mC)), (mh, .inl (cI, 7, .inl mH)), (ml, .inl (cI, 128, .inl (upd g sv (nI (q_rd T n ss t sv)))))]) hx hb hK hP hD hS 5 0 rfl rfl (by omega) (by first | decide | omega) dX10_tells_21 rfl (fun H locs hP hD hS => ?_)
        refine lv_iinc (v := nI (sv + 1)) (lv' := [(2, .int (nI (sv + 1))), (0, .ref ma), (1, .int (bI t))]) hx hb dX10_tells_22 hl (k := 2) rfl (nI_add _ 1) (by decide) rfl (fun ls hl => ?_)
        refine lv_goto (tgt := 2) hx hb dX10_tells_25 (by decide) ?_
        exact ih2 (sv + 1) (upd g sv (nI (q_rd T n ss t sv))) (by omega) (q_upd_lt (fun S => nI (q_rd T n ss t S)) hg) (by omega) _ _ hP hD hS ls (lv_sub hl [1, 2, 0] rfl)
  refine lv_iconst (v := nI 0) hx hb dX10_tells_0 (by decide) ?_
  refine lv_istore_n (lv' := [(2, .int (nI 0)), (0, .ref ma), (1, .int (bI t))]) hx hb dX10_tells_1 rfl hl (by decide) rfl (fun ls hl => ?_)
  exact L2 _ 0 mL (Nat.zero_le _) (fun S h => absurd h (Nat.not_lt_zero _)) (Nat.lt_succ_self _) _ _ hP hD hS ls (lv_sub hl [1, 2, 0] rfl)
