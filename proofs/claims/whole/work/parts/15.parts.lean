set_option maxHeartbeats 4000000 in
set_option maxRecDepth 100000 in
theorem c_X8_hasRoomFor (l : Launch) {D : va_G} {cI cB cZ : ClassId} {tx : Nat} {tb : Nat} {tn : Nat} {q : Nat} (h1 : tn ≤ 300) (h2 : q ≤ 8) : Met l yX8_hasRoomFor wsX8_hasRoomFor ({ frames := 0, cells := 0, slots := 0, locals := 0 } : Room) (va_Pc [.ref tx, .int (nI q)] (q_B D (q_tys cI cB cZ) [(tx, .inr (8, [.ref tb, .int (nI tn)]))])) (vp_Si (fun r => r = bI (decide (tn + q ≤ 300)))) 0 0 (fun _ => False) := by
  refine Met.ofW (cc := cX8_hasRoomFor) (maxL := 2) (ret := (some .boolean)) (by decide) rfl ?_
  intro p e s m args below meth c s₁ B hml hv
  obtain ⟨rfl, hP, hK⟩ := hv
  have hx := B.exec
  have hb := B.bytes
  have hr := B.returns
  have hts := atoms_spec (ws := wsX8_hasRoomFor) B.pre
  have hown : s.vm.findClass RX8 = some m.cls := findClass_of_methodNamed B.named
  have hlocks := B.notSynchronized
  have hin8 : ∀ w ∈ u_ws RX8 TX8 2, w ∈ wsX8_hasRoomFor := by decide +kernel
  have hP : va_P D vwCl [(tx, .inr (8, [.ref tb, .int (nI tn)]))] s.heap := hP
  have hl := lv_entry ([.ref tx, .int (nI q)]) (n := 2) (Nat.le_of_ble_eq_true rfl)
  rw [lg_entry_eq]
  generalize (lg_sl ([.ref tx, .int (nI q)]) ++ List.replicate (2 - (lg_sl ([.ref tx, .int (nI q)])).length) Slot.unset).toArray = ls at hl ⊢
  have hl : lv_has ls 2 [(0, .ref tx), (1, .int (nI q))] := hl
  refine lv_aload_n hx hb dX8_hasRoomFor_0 rfl (lv_at hl 0 rfl) ?_
  refine q_get (ci := 8) (CC := RX8) (T := TX8) (N := 2) (v := .int (nI tn)) hx hb hts hin8 hown hK hP 0 rfl rfl 1 (by decide) (hts (.fieldLink RX8 15 "DearAsMany$Text" "length" "I") (by decide +kernel)) rfl rfl dX8_hasRoomFor_1 ?_
  refine lv_iload_n hx hb dX8_hasRoomFor_4 rfl (lv_at hl 1 rfl) ?_
  refine q_iadd (v := nI (tn + q)) hx hb dX8_hasRoomFor_5 (nI_add _ _) ?_
  refine lv_sipush (v := nI 300) hx hb dX8_hasRoomFor_6 (by decide) ?_
  refine q_ngt (tgt := 16) hx hb dX8_hasRoomFor_9 (by decide) (by omega) (by omega) (fun c_9 => ?_) (fun c_9 => ?_)
  · refine lv_iconst (v := nI 0) hx hb dX8_hasRoomFor_16 (by decide) ?_
    exact q_zret (v := nI 0) hx hb hr hlocks (q_nar0) (show nI 0 = bI (decide (tn + q ≤ 300)) from by rw [decide_eq_false (by omega)]; rfl) dX8_hasRoomFor_17
  · refine lv_iconst (v := nI 1) hx hb dX8_hasRoomFor_12 (by decide) ?_
    refine lv_goto (tgt := 17) hx hb dX8_hasRoomFor_13 (by decide) ?_
    exact q_zret (v := nI 1) hx hb hr hlocks (q_nar1) (show nI 1 = bI (decide (tn + q ≤ 300)) from by rw [decide_eq_true (by omega)]; rfl) dX8_hasRoomFor_17

set_option maxHeartbeats 4000000 in
set_option maxRecDepth 100000 in
theorem c_X8_append (l : Launch) {D : va_G} {cI cB cZ : ClassId} {tx : Nat} {tb : Nat} {tn : Nat} {tby : Nat → Int32} {v : Int32} {zz : Nat} (h1 : tn < 300) : Met l yX8_append wsX8_append ({ frames := 0, cells := 0, slots := 0, locals := 0 } : Room) (va_Pc [.ref tx, .int v] (q_M D (q_tys cI cB cZ) [(tx, .inr (8, [.ref tb, .int (nI tn)])), (tb, .inl (cB, 300, .inl tby))] zz)) (va_Qv (S := Unit) (fun _ => True) (fun u t => va_P D vwCl ((fun _ => [(tx, .inr (8, [.ref tb, .int (nI (tn + 1))])), (tb, .inl (cB, 300, .inl (upd tby tn (vp_nar .byte (v.toInt8.toInt32)))))]) u) t.heap) (va_A [(tx, .inr (8, [.ref tb, .int (nI tn)])), (tb, .inl (cB, 300, .inl tby))] zz)) 0 0 (va_A [(tx, .inr (8, [.ref tb, .int (nI tn)])), (tb, .inl (cB, 300, .inl tby))] zz) := by
  refine Met.ofW (cc := cX8_append) (maxL := 2) (ret := none) (by decide) rfl ?_
  intro p e s m args below meth c s₁ B hml hv
  obtain ⟨rfl, hsz, hP, hK, hD0⟩ := hv
  have hx := B.exec
  have hb := B.bytes
  have hr := B.returns
  have hts := atoms_spec (ws := wsX8_append) B.pre
  have hown : s.vm.findClass RX8 = some m.cls := findClass_of_methodNamed B.named
  have hlocks := B.notSynchronized
  have hin8 : ∀ w ∈ u_ws RX8 TX8 2, w ∈ wsX8_append := by decide +kernel
  subst hsz
  have hD := hD0.self (sz := s.heap.size)
  generalize hAe : va_A [(tx, .inr (8, [.ref tb, .int (nI tn)])), (tb, .inl (cB, 300, .inl tby))] s.heap.size = A at hD ⊢
  have hA : ∀ q : Nat, s.heap.size ≤ q → A q := fun q h => by rw [← hAe]; exact Or.inr h
  have hS : va_S A s.heap s.heap [] := va_S.rf
  have hP : va_P D vwCl [(tx, .inr (8, [.ref tb, .int (nI tn)])), (tb, .inl (cB, 300, .inl tby))] s.heap := hP
  have hl := lv_entry ([.ref tx, .int v]) (n := 2) (Nat.le_of_ble_eq_true rfl)
  rw [lg_entry_eq]
  generalize (lg_sl ([.ref tx, .int v]) ++ List.replicate (2 - (lg_sl ([.ref tx, .int v])).length) Slot.unset).toArray = ls at hl ⊢
  have hl : lv_has ls 2 [(0, .ref tx), (1, .int v)] := hl
  refine lv_aload_n hx hb dX8_append_0 rfl (lv_at hl 0 rfl) ?_
  refine q_get (ci := 8) (CC := RX8) (T := TX8) (N := 2) (v := .int (nI tn)) hx hb hts hin8 hown hK hP 0 rfl rfl 1 (by decide) (hts (.fieldLink RX8 15 "DearAsMany$Text" "length" "I") (by decide +kernel)) rfl rfl dX8_append_1 ?_
  refine q_zlt (tgt := 40) hx hb dX8_append_4 (by decide) (by omega) (fun c_4 => ?_) (fun c_4 => ?_)
  · exact absurd c_4 (Nat.not_lt_zero _)
  · refine lv_aload_n hx hb dX8_append_7 rfl (lv_at hl 0 rfl) ?_
    refine q_get (ci := 8) (CC := RX8) (T := TX8) (N := 2) (v := .int (nI tn)) hx hb hts hin8 hown hK hP 0 rfl rfl 1 (by decide) (hts (.fieldLink RX8 15 "DearAsMany$Text" "length" "I") (by decide +kernel)) rfl rfl dX8_append_8 ?_
    refine lv_aload_n hx hb dX8_append_11 rfl (lv_at hl 0 rfl) ?_
    refine q_get (ci := 8) (CC := RX8) (T := TX8) (N := 2) (v := .ref tb) hx hb hts hin8 hown hK hP 0 rfl rfl 0 (by decide) (hts (.fieldLink RX8 9 "DearAsMany$Text" "bytes" "[B") (by decide +kernel)) rfl rfl dX8_append_12 ?_
    refine q_alen hx hb hK hP 1 1 rfl rfl dX8_append_15 ?_
    refine q_nge (tgt := 40) hx hb dX8_append_16 (by decide) (by omega) (by omega) (fun c_16 => ?_) (fun c_16 => ?_)
    · exfalso; omega
    · refine lv_aload_n hx hb dX8_append_19 rfl (lv_at hl 0 rfl) ?_
      refine q_get (ci := 8) (CC := RX8) (T := TX8) (N := 2) (v := .ref tb) hx hb hts hin8 hown hK hP 0 rfl rfl 0 (by decide) (hts (.fieldLink RX8 9 "DearAsMany$Text" "bytes" "[B") (by decide +kernel)) rfl rfl dX8_append_20 ?_
      refine lv_aload_n hx hb dX8_append_23 rfl (lv_at hl 0 rfl) ?_
      refine q_get (ci := 8) (CC := RX8) (T := TX8) (N := 2) (v := .int (nI tn)) hx hb hts hin8 hown hK hP 0 rfl rfl 1 (by decide) (hts (.fieldLink RX8 15 "DearAsMany$Text" "length" "I") (by decide +kernel)) rfl rfl dX8_append_24 ?_
      refine lv_iload_n hx hb dX8_append_27 rfl (lv_at hl 1 rfl) ?_
      refine lv_i2b (v := v.toInt8.toInt32) hx hb dX8_append_28 (rfl) ?_
      refine q_bst (w2 := [(tx, .inr (8, [.ref tb, .int (nI tn)])), (tb, .inl (cB, 300, .inl (upd tby tn (vp_nar .byte v.toInt8.toInt32))))]) hx hb hK hP hD hS 1 1 rfl rfl (by omega) (by first | decide | omega) dX8_append_29 rfl (fun H locs hP hD hS => ?_)
      refine lv_aload_n hx hb dX8_append_30 rfl (lv_at hl 0 rfl) ?_
      refine lv_dup hx hb dX8_append_31 rfl ?_
      refine q_get (ci := 8) (CC := RX8) (T := TX8) (N := 2) (v := .int (nI tn)) hx hb hts hin8 hown hK hP 0 rfl rfl 1 (by decide) (hts (.fieldLink RX8 15 "DearAsMany$Text" "length" "I") (by decide +kernel)) rfl rfl dX8_append_32 ?_
      refine lv_iconst (v := nI 1) hx hb dX8_append_35 (by decide) ?_
      refine q_iadd (v := nI (tn + 1)) hx hb dX8_append_36 (nI_add _ _) ?_
      refine q_put (ci := 8) (CC := RX8) (T := TX8) (N := 2) (w2 := [(tx, .inr (8, [.ref tb, .int (nI (tn + 1))])), (tb, .inl (cB, 300, .inl (upd tby tn (vp_nar .byte v.toInt8.toInt32))))]) hx hb hts hin8 tyX8 tyX8_ok nmX8 hown hK hP hD hS 0 rfl rfl 1 (by decide) (hts (.fieldLink RX8 15 "DearAsMany$Text" "length" "I") (by decide +kernel)) rfl rfl rfl (Nat.le_of_ble_eq_true rfl) dX8_append_37 rfl (fun H locs hP hD hS => ?_)
      exact q_mretv (S := Unit) (w1 := fun _ => [(tx, .inr (8, [.ref tb, .int (nI (tn + 1))])), (tb, .inl (cB, 300, .inl (upd tby tn (vp_nar .byte (v.toInt8.toInt32)))))]) () hx hb hr hlocks hP hS dX8_append_40 (trivial)

set_option maxHeartbeats 4000000 in
set_option maxRecDepth 100000 in
theorem c_X8_byteAt (l : Launch) {D : va_G} {cI cB cZ : ClassId} {tx : Nat} {tb : Nat} {tn : Nat} {tby : Nat → Int32} {tf : Nat → Nat} {p0 : Nat} (hTx : q_Tx tn tf tby) (hp0 : p0 < 2147483648) : Met l yX8_byteAt wsX8_byteAt ({ frames := 0, cells := 0, slots := 0, locals := 0 } : Room) (va_Pc [.ref tx, .int (nI p0)] (q_B D (q_tys cI cB cZ) [(tx, .inr (8, [.ref tb, .int (nI tn)])), (tb, .inl (cB, 300, .inl tby))])) (vp_Si (fun r => r = q_bat tn tf p0)) 0 0 (fun _ => False) := by
  refine Met.ofW (cc := cX8_byteAt) (maxL := 2) (ret := (some .int)) (by decide) rfl ?_
  intro p e s m args below meth c s₁ B hml hv
  obtain ⟨rfl, hP, hK⟩ := hv
  have hx := B.exec
  have hb := B.bytes
  have hr := B.returns
  have hts := atoms_spec (ws := wsX8_byteAt) B.pre
  have hown : s.vm.findClass RX8 = some m.cls := findClass_of_methodNamed B.named
  have hlocks := B.notSynchronized
  have hin8 : ∀ w ∈ u_ws RX8 TX8 2, w ∈ wsX8_byteAt := by decide +kernel
  have hP : va_P D vwCl [(tx, .inr (8, [.ref tb, .int (nI tn)])), (tb, .inl (cB, 300, .inl tby))] s.heap := hP
  have hl := lv_entry ([.ref tx, .int (nI p0)]) (n := 2) (Nat.le_of_ble_eq_true rfl)
  rw [lg_entry_eq]
  generalize (lg_sl ([.ref tx, .int (nI p0)]) ++ List.replicate (2 - (lg_sl ([.ref tx, .int (nI p0)])).length) Slot.unset).toArray = ls at hl ⊢
  have hl : lv_has ls 2 [(0, .ref tx), (1, .int (nI p0))] := hl
  have htn := hTx.1
  refine lv_iload_n hx hb dX8_byteAt_0 rfl (lv_at hl 1 rfl) ?_
  refine q_zlt (tgt := 34) hx hb dX8_byteAt_1 (by decide) (by omega) (fun c_1 => ?_) (fun c_1 => ?_)
  · exact absurd c_1 (Nat.not_lt_zero _)
  · refine lv_iload_n hx hb dX8_byteAt_4 rfl (lv_at hl 1 rfl) ?_
    refine lv_aload_n hx hb dX8_byteAt_5 rfl (lv_at hl 0 rfl) ?_
    refine q_get (ci := 8) (CC := RX8) (T := TX8) (N := 2) (v := .int (nI tn)) hx hb hts hin8 hown hK hP 0 rfl rfl 1 (by decide) (hts (.fieldLink RX8 15 "DearAsMany$Text" "length" "I") (by decide +kernel)) rfl rfl dX8_byteAt_6 ?_
    refine q_nge (tgt := 34) hx hb dX8_byteAt_9 (by decide) (by omega) (by omega) (fun c_9 => ?_) (fun c_9 => ?_)
    · refine lv_iconst (v := (-1 : Int32)) hx hb dX8_byteAt_34 (by decide) ?_
      exact q_zret (v := (-1 : Int32)) hx hb hr hlocks (rfl) (show (-1 : Int32) = q_bat tn tf p0 from by rw [q_bat, if_neg (by omega)]) dX8_byteAt_35
    · refine lv_iload_n hx hb dX8_byteAt_12 rfl (lv_at hl 1 rfl) ?_
      refine lv_aload_n hx hb dX8_byteAt_13 rfl (lv_at hl 0 rfl) ?_
      refine q_get (ci := 8) (CC := RX8) (T := TX8) (N := 2) (v := .ref tb) hx hb hts hin8 hown hK hP 0 rfl rfl 0 (by decide) (hts (.fieldLink RX8 9 "DearAsMany$Text" "bytes" "[B") (by decide +kernel)) rfl rfl dX8_byteAt_14 ?_
      refine q_alen hx hb hK hP 1 1 rfl rfl dX8_byteAt_17 ?_
      refine q_nge (tgt := 34) hx hb dX8_byteAt_18 (by decide) (by omega) (by omega) (fun c_18 => ?_) (fun c_18 => ?_)
      · exfalso; omega
      · refine lv_aload_n hx hb dX8_byteAt_21 rfl (lv_at hl 0 rfl) ?_
        refine q_get (ci := 8) (CC := RX8) (T := TX8) (N := 2) (v := .ref tb) hx hb hts hin8 hown hK hP 0 rfl rfl 0 (by decide) (hts (.fieldLink RX8 9 "DearAsMany$Text" "bytes" "[B") (by decide +kernel)) rfl rfl dX8_byteAt_22 ?_
        refine lv_iload_n hx hb dX8_byteAt_25 rfl (lv_at hl 1 rfl) ?_
        refine q_bldv (v := q_byt (tf p0)) hx hb hK hP 1 1 rfl rfl (by omega) (by decide) dX8_byteAt_26 ((hTx.2 p0 (by omega)).2) ?_
        refine lv_sipush (v := nI 255) hx hb dX8_byteAt_27 (by decide) ?_
        refine q_iand (v := nI (tf p0)) hx hb dX8_byteAt_30 (q_byt255 (hTx.2 p0 (by omega)).1) ?_
        refine lv_goto (tgt := 35) hx hb dX8_byteAt_31 (by decide) ?_
        exact q_zret (v := nI (tf p0)) hx hb hr hlocks (rfl) (show nI (tf p0) = q_bat tn tf p0 from by rw [q_bat, if_pos (by omega)]) dX8_byteAt_35

set_option maxHeartbeats 4000000 in
set_option maxRecDepth 100000 in
theorem c_X8_empty (l : Launch) {D : va_G} {cI cB cZ : ClassId} {tx : Nat} {tb : Nat} {tn : Nat} {zz : Nat} : Met l yX8_empty wsX8_empty ({ frames := 0, cells := 0, slots := 0, locals := 0 } : Room) (va_Pc [.ref tx] (q_M D (q_tys cI cB cZ) [(tx, .inr (8, [.ref tb, .int (nI tn)]))] zz)) (va_Qi (S := Unit) (fun r _ => r = nI tn) (fun u t => va_P D vwCl ((fun _ => [(tx, .inr (8, [.ref tb, .int (nI 0)]))]) u) t.heap) (va_A [(tx, .inr (8, [.ref tb, .int (nI tn)]))] zz)) 0 0 (va_A [(tx, .inr (8, [.ref tb, .int (nI tn)]))] zz) := by
  refine Met.ofW (cc := cX8_empty) (maxL := 2) (ret := (some .int)) (by decide) rfl ?_
  intro p e s m args below meth c s₁ B hml hv
  obtain ⟨rfl, hsz, hP, hK, hD0⟩ := hv
  have hx := B.exec
  have hb := B.bytes
  have hr := B.returns
  have hts := atoms_spec (ws := wsX8_empty) B.pre
  have hown : s.vm.findClass RX8 = some m.cls := findClass_of_methodNamed B.named
  have hlocks := B.notSynchronized
  have hin8 : ∀ w ∈ u_ws RX8 TX8 2, w ∈ wsX8_empty := by decide +kernel
  subst hsz
  have hD := hD0.self (sz := s.heap.size)
  generalize hAe : va_A [(tx, .inr (8, [.ref tb, .int (nI tn)]))] s.heap.size = A at hD ⊢
  have hA : ∀ q : Nat, s.heap.size ≤ q → A q := fun q h => by rw [← hAe]; exact Or.inr h
  have hS : va_S A s.heap s.heap [] := va_S.rf
  have hP : va_P D vwCl [(tx, .inr (8, [.ref tb, .int (nI tn)]))] s.heap := hP
  have hl := lv_entry ([.ref tx]) (n := 2) (Nat.le_of_ble_eq_true rfl)
  rw [lg_entry_eq]
  generalize (lg_sl ([.ref tx]) ++ List.replicate (2 - (lg_sl ([.ref tx])).length) Slot.unset).toArray = ls at hl ⊢
  have hl : lv_has ls 2 [(0, .ref tx)] := hl
  refine lv_aload_n hx hb dX8_empty_0 rfl (lv_at hl 0 rfl) ?_
  refine q_get (ci := 8) (CC := RX8) (T := TX8) (N := 2) (v := .int (nI tn)) hx hb hts hin8 hown hK hP 0 rfl rfl 1 (by decide) (hts (.fieldLink RX8 15 "DearAsMany$Text" "length" "I") (by decide +kernel)) rfl rfl dX8_empty_1 ?_
  refine lv_istore_n (lv' := [(1, .int (nI tn)), (0, .ref tx)]) hx hb dX8_empty_4 rfl hl (by decide) rfl (fun ls hl => ?_)
  refine lv_aload_n hx hb dX8_empty_5 rfl (lv_at hl 1 rfl) ?_
  refine lv_iconst (v := nI 0) hx hb dX8_empty_6 (by decide) ?_
  refine q_put (ci := 8) (CC := RX8) (T := TX8) (N := 2) (w2 := [(tx, .inr (8, [.ref tb, .int (nI 0)]))]) hx hb hts hin8 tyX8 tyX8_ok nmX8 hown hK hP hD hS 0 rfl rfl 1 (by decide) (hts (.fieldLink RX8 15 "DearAsMany$Text" "length" "I") (by decide +kernel)) rfl rfl rfl (Nat.le_of_ble_eq_true rfl) dX8_empty_7 rfl (fun H locs hP hD hS => ?_)
  refine lv_iload_n hx hb dX8_empty_10 rfl (lv_at hl 0 rfl) ?_
  exact q_mret (S := Unit) (v := nI tn) (w1 := fun _ => [(tx, .inr (8, [.ref tb, .int (nI 0)]))]) () hx hb hr hlocks (rfl) hP hS dX8_empty_11 (rfl)

set_option maxHeartbeats 4000000 in
set_option maxRecDepth 100000 in
theorem c_X6_figure (l : Launch) {D : va_G} {cI cB cZ : ClassId} {w : Int32} : Met l yX6_figure wsX6_figure ({ frames := 0, cells := 0, slots := 0, locals := 0 } : Room) (va_Pc [.int w] (q_B D (q_tys cI cB cZ) [])) (vp_Si (fun r => r = q_fig w)) 0 0 (fun _ => False) := by
  refine Met.ofW (cc := cX6_figure) (maxL := 1) (ret := (some .int)) (by decide) rfl ?_
  intro p e s m args below meth c s₁ B hml hv
  obtain ⟨rfl, hP, hK⟩ := hv
  have hx := B.exec
  have hb := B.bytes
  have hr := B.returns
  have hts := atoms_spec (ws := wsX6_figure) B.pre
  have hown : s.vm.findClass RX6 = some m.cls := findClass_of_methodNamed B.named
  have hlocks := B.notSynchronized
  have hP : va_P D vwCl [] s.heap := hP
  have hl := lv_entry ([.int w]) (n := 1) (Nat.le_of_ble_eq_true rfl)
  rw [lg_entry_eq]
  generalize (lg_sl ([.int w]) ++ List.replicate (1 - (lg_sl ([.int w])).length) Slot.unset).toArray = ls at hl ⊢
  have hl : lv_has ls 1 [(0, .int w)] := hl
  refine lv_iload_n hx hb dX6_figure_0 rfl (lv_at hl 0 rfl) ?_
  refine lv_bipush (v := nI 48) hx hb dX6_figure_1 (by decide) ?_
  refine lv_icmp_lt (x := w) (y := nI 48) (tgt := 19) hx hb dX6_figure_3 (by decide) (fun c_3 => ?_) (fun c_3 => ?_)
  · refine lv_iconst (v := (-1 : Int32)) hx hb dX6_figure_19 (by decide) ?_
    exact q_zret (v := (-1 : Int32)) hx hb hr hlocks (rfl) (show (-1 : Int32) = q_fig w from by rw [q_fig, if_pos c_3]) dX6_figure_20
  · refine lv_iload_n hx hb dX6_figure_6 rfl (lv_at hl 0 rfl) ?_
    refine lv_bipush (v := nI 57) hx hb dX6_figure_7 (by decide) ?_
    refine lv_icmp_gt (x := w) (y := nI 57) (tgt := 19) hx hb dX6_figure_9 (by decide) (fun c_9 => ?_) (fun c_9 => ?_)
    · refine lv_iconst (v := (-1 : Int32)) hx hb dX6_figure_19 (by decide) ?_
      exact q_zret (v := (-1 : Int32)) hx hb hr hlocks (rfl) (show (-1 : Int32) = q_fig w from by rw [q_fig, if_neg c_3, if_pos c_9]) dX6_figure_20
    · refine lv_iload_n hx hb dX6_figure_12 rfl (lv_at hl 0 rfl) ?_
      refine lv_bipush (v := nI 48) hx hb dX6_figure_13 (by decide) ?_
      refine q_isub (v := w - (nI 48)) hx hb dX6_figure_15 (rfl) ?_
      refine lv_goto (tgt := 20) hx hb dX6_figure_16 (by decide) ?_
      exact q_zret (v := w - (nI 48)) hx hb hr hlocks (rfl) (show w - (nI 48) = q_fig w from by rw [q_fig, if_neg c_3, if_neg c_9]) dX6_figure_20

set_option maxHeartbeats 4000000 in
set_option maxRecDepth 100000 in
theorem c_X6_readNumber (l : Launch) {D : va_G} {cI cB cZ : ClassId} {rd : Nat} {rn : Nat} {tx : Nat} {tb : Nat} {tn : Nat} {tby : Nat → Int32} {tf : Nat → Nat} {pk : Nat} {zz : Nat} (hTx : q_Tx tn tf tby) (hpk : pk ≤ 300) : Met l yX6_readNumber wsX6_readNumber ({ frames := 1, cells := 0, slots := 0, locals := 21 } : Room) (va_Pc [.ref rd, .ref tx] (q_M D (q_tys cI cB cZ) [(rd, .inr (6, [.ref rn, .int (nI pk)])), (tx, .inr (8, [.ref tb, .int (nI tn)])), (tb, .inl (cB, 300, .inl tby))] zz)) (va_Qi (S := Unit) (fun r _ => r = q_o1 (q_num tn tf pk).1) (fun u t => va_P D vwCl ((fun _ => [(rd, .inr (6, [.ref rn, .int (nI ((q_num tn tf pk).2))])), (tx, .inr (8, [.ref tb, .int (nI tn)])), (tb, .inl (cB, 300, .inl tby))]) u) t.heap) (va_A [(rd, .inr (6, [.ref rn, .int (nI pk)])), (tx, .inr (8, [.ref tb, .int (nI tn)])), (tb, .inl (cB, 300, .inl tby))] zz)) 0 0 (va_A [(rd, .inr (6, [.ref rn, .int (nI pk)])), (tx, .inr (8, [.ref tb, .int (nI tn)])), (tb, .inl (cB, 300, .inl tby))] zz) := by
  refine Met.ofW (cc := cX6_readNumber) (maxL := 4) (ret := (some .int)) (by decide) rfl ?_
  intro p e s m args below meth c s₁ B hml hv
  obtain ⟨rfl, hsz, hP, hK, hD0⟩ := hv
  have hx := B.exec
  have hb := B.bytes
  have hr := B.returns
  have hts := atoms_spec (ws := wsX6_readNumber) B.pre
  have hown : s.vm.findClass RX6 = some m.cls := findClass_of_methodNamed B.named
  have hlocks := B.notSynchronized
  have hin6 : ∀ w ∈ u_ws RX6 TX6 2, w ∈ wsX6_readNumber := by decide +kernel
  subst hsz
  have hD := hD0.self (sz := s.heap.size)
  generalize hAe : va_A [(rd, .inr (6, [.ref rn, .int (nI pk)])), (tx, .inr (8, [.ref tb, .int (nI tn)])), (tb, .inl (cB, 300, .inl tby))] s.heap.size = A at hD ⊢
  have hA : ∀ q : Nat, s.heap.size ≤ q → A q := fun q h => by rw [← hAe]; exact Or.inr h
  have hS : va_S A s.heap s.heap [] := va_S.rf
  have hP : va_P D vwCl [(rd, .inr (6, [.ref rn, .int (nI pk)])), (tx, .inr (8, [.ref tb, .int (nI tn)])), (tb, .inl (cB, 300, .inl tby))] s.heap := hP
  have hl := lv_entry ([.ref rd, .ref tx]) (n := 4) (Nat.le_of_ble_eq_true rfl)
  rw [lg_entry_eq]
  generalize (lg_sl ([.ref rd, .ref tx]) ++ List.replicate (4 - (lg_sl ([.ref rd, .ref tx])).length) Slot.unset).toArray = ls at hl ⊢
  have hl : lv_has ls 4 [(0, .ref rd), (1, .ref tx)] := hl
  rcases ho : q_dg tn tf pk with _ | a
  · refine lv_aload_n hx hb dX6_readNumber_0 rfl (lv_at hl 1 rfl) ?_
    refine lv_aload_n hx hb dX6_readNumber_1 rfl (lv_at hl 0 rfl) ?_
    refine q_get (ci := 6) (CC := RX6) (T := TX6) (N := 2) (v := .int (nI pk)) hx hb hts hin6 hown hK hP 0 rfl rfl 1 (by decide) (hts (.fieldLink RX6 15 "DearAsMany$Reader" "place" "I") (by decide +kernel)) rfl rfl dX6_readNumber_2 ?_
    refine q_vi (As := [.int (nI pk)]) (rest := []) ⟨hx, hb, hml, hown, hts⟩ (c_X8_byteAt l (D := D) (cI := cI) (cB := cB) (cZ := cZ) (tx := tx) (tb := tb) (tn := tn) (tby := tby) (tf := tf) (p0 := pk) (by first | assumption | exact Nat.zero_le _ | omega) (by first | assumption | exact Nat.zero_le _ | omega)) (cwV 1 hts gX6_readNumber_X8_byteAt rfl rfl rfl (by decide +kernel) ⟨Nat.le_of_ble_eq_true rfl, Nat.le_of_ble_eq_true rfl⟩) hK hP [1, 2] rfl 1 8 rfl rfl rfl rfl hl.1 rfl (Nat.le_of_ble_eq_true rfl) dX6_readNumber_5 ⟨Nat.zero_le _, Nat.zero_le _⟩ (fun r_5 hr_5 => ?_)
    have hr_5 : q_bat tn tf pk = r_5 := (show r_5 = q_bat tn tf pk from hr_5).symm
    subst hr_5
    refine q_si (As := [.int (q_bat tn tf pk)]) (rest := []) ⟨hx, hb, hml, hown, hts⟩ (c_X6_figure l (D := D) (cI := cI) (cB := cB) (cZ := cZ) (w := q_bat tn tf pk) ) (va_cwS 1 hts gX6_readNumber_X6_figure rfl rfl rfl (by decide +kernel) ⟨Nat.le_of_ble_eq_true rfl, Nat.le_of_ble_eq_true rfl⟩) hK hP [] rfl rfl hl.1 rfl (Nat.le_of_ble_eq_true rfl) dX6_readNumber_8 ⟨Nat.zero_le _, Nat.zero_le _⟩ (fun r_8 hr_8 => ?_)
    have hr_8 : (-1 : Int32) = r_8 := (Eq.trans (show r_8 = q_fig (q_bat tn tf pk) from hr_8) (by rw [q_figB hTx, ho]; rfl)).symm
    subst hr_8
    refine lv_istore_n (lv' := [(2, .int (-1 : Int32)), (0, .ref rd), (1, .ref tx)]) hx hb dX6_readNumber_11 rfl hl (by decide) rfl (fun ls hl => ?_)
    refine lv_iload_n hx hb dX6_readNumber_12 rfl (lv_at hl 0 rfl) ?_
    refine lv_if_ge (x := (-1 : Int32)) (tgt := 18) hx hb dX6_readNumber_13 (by decide) (fun c_13 => ?_) (fun c_13 => ?_)
    · exact absurd c_13 ((by decide))
    · refine lv_iconst (v := (-1 : Int32)) hx hb dX6_readNumber_16 (by decide) ?_
      have hP : va_P D vwCl [(rd, .inr (6, [.ref rn, .int (nI ((q_num tn tf pk).2))])), (tx, .inr (8, [.ref tb, .int (nI tn)])), (tb, .inl (cB, 300, .inl tby))] s.heap := by rw [← show (nI pk) = (nI ((q_num tn tf pk).2)) from by simp only [q_num, ho]]; exact hP
      have hD : va_D A [(rd, .inr (6, [.ref rn, .int (nI ((q_num tn tf pk).2))])), (tx, .inr (8, [.ref tb, .int (nI tn)])), (tb, .inl (cB, 300, .inl tby))] := q_Dadr (by rfl) hD
      exact q_mret (S := Unit) (v := (-1 : Int32)) (w1 := fun _ => [(rd, .inr (6, [.ref rn, .int (nI ((q_num tn tf pk).2))])), (tx, .inr (8, [.ref tb, .int (nI tn)])), (tb, .inl (cB, 300, .inl tby))]) () hx hb hr hlocks (rfl) hP hS dX6_readNumber_17 (by simp only [q_num, ho, q_o1])
  · refine lv_aload_n hx hb dX6_readNumber_0 rfl (lv_at hl 1 rfl) ?_
    refine lv_aload_n hx hb dX6_readNumber_1 rfl (lv_at hl 0 rfl) ?_
    refine q_get (ci := 6) (CC := RX6) (T := TX6) (N := 2) (v := .int (nI pk)) hx hb hts hin6 hown hK hP 0 rfl rfl 1 (by decide) (hts (.fieldLink RX6 15 "DearAsMany$Reader" "place" "I") (by decide +kernel)) rfl rfl dX6_readNumber_2 ?_
    refine q_vi (As := [.int (nI pk)]) (rest := []) ⟨hx, hb, hml, hown, hts⟩ (c_X8_byteAt l (D := D) (cI := cI) (cB := cB) (cZ := cZ) (tx := tx) (tb := tb) (tn := tn) (tby := tby) (tf := tf) (p0 := pk) (by first | assumption | exact Nat.zero_le _ | omega) (by first | assumption | exact Nat.zero_le _ | omega)) (cwV 1 hts gX6_readNumber_X8_byteAt rfl rfl rfl (by decide +kernel) ⟨Nat.le_of_ble_eq_true rfl, Nat.le_of_ble_eq_true rfl⟩) hK hP [1, 2] rfl 1 8 rfl rfl rfl rfl hl.1 rfl (Nat.le_of_ble_eq_true rfl) dX6_readNumber_5 ⟨Nat.zero_le _, Nat.zero_le _⟩ (fun r_5 hr_5 => ?_)
    have hr_5 : q_bat tn tf pk = r_5 := (show r_5 = q_bat tn tf pk from hr_5).symm
    subst hr_5
    refine q_si (As := [.int (q_bat tn tf pk)]) (rest := []) ⟨hx, hb, hml, hown, hts⟩ (c_X6_figure l (D := D) (cI := cI) (cB := cB) (cZ := cZ) (w := q_bat tn tf pk) ) (va_cwS 1 hts gX6_readNumber_X6_figure rfl rfl rfl (by decide +kernel) ⟨Nat.le_of_ble_eq_true rfl, Nat.le_of_ble_eq_true rfl⟩) hK hP [] rfl rfl hl.1 rfl (Nat.le_of_ble_eq_true rfl) dX6_readNumber_8 ⟨Nat.zero_le _, Nat.zero_le _⟩ (fun r_8 hr_8 => ?_)
    have hr_8 : nI a = r_8 := (Eq.trans (show r_8 = q_fig (q_bat tn tf pk) from hr_8) (by rw [q_figB hTx, ho]; rfl)).symm
    subst hr_8
    refine lv_istore_n (lv' := [(2, .int (nI a)), (0, .ref rd), (1, .ref tx)]) hx hb dX6_readNumber_11 rfl hl (by decide) rfl (fun ls hl => ?_)
    refine lv_iload_n hx hb dX6_readNumber_12 rfl (lv_at hl 0 rfl) ?_
    refine q_zge (tgt := 18) hx hb dX6_readNumber_13 (by decide) (by have := q_dg_le ho; omega) (fun c_13 => ?_) (fun c_13 => ?_)
    · refine lv_aload_n hx hb dX6_readNumber_18 rfl (lv_at hl 1 rfl) ?_
      refine lv_dup hx hb dX6_readNumber_19 rfl ?_
      refine q_get (ci := 6) (CC := RX6) (T := TX6) (N := 2) (v := .int (nI pk)) hx hb hts hin6 hown hK hP 0 rfl rfl 1 (by decide) (hts (.fieldLink RX6 15 "DearAsMany$Reader" "place" "I") (by decide +kernel)) rfl rfl dX6_readNumber_20 ?_
      refine lv_iconst (v := nI 1) hx hb dX6_readNumber_23 (by decide) ?_
      refine q_iadd (v := nI (pk + 1)) hx hb dX6_readNumber_24 (nI_add _ _) ?_
      refine q_put (ci := 6) (CC := RX6) (T := TX6) (N := 2) (w2 := [(rd, .inr (6, [.ref rn, .int (nI (pk + 1))])), (tx, .inr (8, [.ref tb, .int (nI tn)])), (tb, .inl (cB, 300, .inl tby))]) hx hb hts hin6 tyX6 tyX6_ok nmX6 hown hK hP hD hS 0 rfl rfl 1 (by decide) (hts (.fieldLink RX6 15 "DearAsMany$Reader" "place" "I") (by decide +kernel)) rfl rfl rfl (Nat.le_of_ble_eq_true rfl) dX6_readNumber_25 rfl (fun H locs hP hD hS => ?_)
      rcases ho2 : q_dg tn tf (pk + 1) with _ | b1
      · refine lv_aload_n hx hb dX6_readNumber_28 rfl (lv_at hl 2 rfl) ?_
        refine lv_aload_n hx hb dX6_readNumber_29 rfl (lv_at hl 1 rfl) ?_
        refine q_get (ci := 6) (CC := RX6) (T := TX6) (N := 2) (v := .int (nI (pk + 1))) hx hb hts hin6 hown hK hP 0 rfl rfl 1 (by decide) (hts (.fieldLink RX6 15 "DearAsMany$Reader" "place" "I") (by decide +kernel)) rfl rfl dX6_readNumber_30 ?_
        refine q_vi (As := [.int (nI (pk + 1))]) (rest := []) ⟨hx, hb, hml, hown, hts⟩ (c_X8_byteAt l (D := D) (cI := cI) (cB := cB) (cZ := cZ) (tx := tx) (tb := tb) (tn := tn) (tby := tby) (tf := tf) (p0 := pk + 1) (by first | assumption | exact Nat.zero_le _ | omega) (by first | assumption | exact Nat.zero_le _ | omega)) (cwV 1 hts gX6_readNumber_X8_byteAt rfl rfl rfl (by decide +kernel) ⟨Nat.le_of_ble_eq_true rfl, Nat.le_of_ble_eq_true rfl⟩) hK hP [1, 2] rfl 1 8 rfl rfl rfl rfl hl.1 rfl (Nat.le_of_ble_eq_true rfl) dX6_readNumber_33 ⟨Nat.zero_le _, Nat.zero_le _⟩ (fun r_33 hr_33 => ?_)
        have hr_33 : q_bat tn tf (pk + 1) = r_33 := (show r_33 = q_bat tn tf (pk + 1) from hr_33).symm
        subst hr_33
        refine q_si (As := [.int (q_bat tn tf (pk + 1))]) (rest := []) ⟨hx, hb, hml, hown, hts⟩ (c_X6_figure l (D := D) (cI := cI) (cB := cB) (cZ := cZ) (w := q_bat tn tf (pk + 1)) ) (va_cwS 1 hts gX6_readNumber_X6_figure rfl rfl rfl (by decide +kernel) ⟨Nat.le_of_ble_eq_true rfl, Nat.le_of_ble_eq_true rfl⟩) hK hP [] rfl rfl hl.1 rfl (Nat.le_of_ble_eq_true rfl) dX6_readNumber_36 ⟨Nat.zero_le _, Nat.zero_le _⟩ (fun r_36 hr_36 => ?_)
        have hr_36 : (-1 : Int32) = r_36 := (Eq.trans (show r_36 = q_fig (q_bat tn tf (pk + 1)) from hr_36) (by rw [q_figB hTx, ho2]; rfl)).symm
        subst hr_36
        refine lv_istore_n (lv' := [(3, .int (-1 : Int32)), (2, .int (nI a)), (0, .ref rd), (1, .ref tx)]) hx hb dX6_readNumber_39 rfl hl (by decide) rfl (fun ls hl => ?_)
        refine lv_iload_n hx hb dX6_readNumber_40 rfl (lv_at hl 0 rfl) ?_
        refine lv_if_ge (x := (-1 : Int32)) (tgt := 46) hx hb dX6_readNumber_41 (by decide) (fun c_41 => ?_) (fun c_41 => ?_)
        · exact absurd c_41 ((by decide))
        · refine lv_iload_n hx hb dX6_readNumber_44 rfl (lv_at hl 1 rfl) ?_
          have hP : va_P D vwCl [(rd, .inr (6, [.ref rn, .int (nI ((q_num tn tf pk).2))])), (tx, .inr (8, [.ref tb, .int (nI tn)])), (tb, .inl (cB, 300, .inl tby))] H := by rw [← show (nI (pk + 1)) = (nI ((q_num tn tf pk).2)) from by simp only [q_num, ho, ho2]]; exact hP
          have hD : va_D A [(rd, .inr (6, [.ref rn, .int (nI ((q_num tn tf pk).2))])), (tx, .inr (8, [.ref tb, .int (nI tn)])), (tb, .inl (cB, 300, .inl tby))] := q_Dadr (by rfl) hD
          exact q_mret (S := Unit) (v := nI a) (w1 := fun _ => [(rd, .inr (6, [.ref rn, .int (nI ((q_num tn tf pk).2))])), (tx, .inr (8, [.ref tb, .int (nI tn)])), (tb, .inl (cB, 300, .inl tby))]) () hx hb hr hlocks (rfl) hP hS dX6_readNumber_45 (by simp only [q_num, ho, ho2, q_o1])
      · refine lv_aload_n hx hb dX6_readNumber_28 rfl (lv_at hl 2 rfl) ?_
        refine lv_aload_n hx hb dX6_readNumber_29 rfl (lv_at hl 1 rfl) ?_
        refine q_get (ci := 6) (CC := RX6) (T := TX6) (N := 2) (v := .int (nI (pk + 1))) hx hb hts hin6 hown hK hP 0 rfl rfl 1 (by decide) (hts (.fieldLink RX6 15 "DearAsMany$Reader" "place" "I") (by decide +kernel)) rfl rfl dX6_readNumber_30 ?_
        refine q_vi (As := [.int (nI (pk + 1))]) (rest := []) ⟨hx, hb, hml, hown, hts⟩ (c_X8_byteAt l (D := D) (cI := cI) (cB := cB) (cZ := cZ) (tx := tx) (tb := tb) (tn := tn) (tby := tby) (tf := tf) (p0 := pk + 1) (by first | assumption | exact Nat.zero_le _ | omega) (by first | assumption | exact Nat.zero_le _ | omega)) (cwV 1 hts gX6_readNumber_X8_byteAt rfl rfl rfl (by decide +kernel) ⟨Nat.le_of_ble_eq_true rfl, Nat.le_of_ble_eq_true rfl⟩) hK hP [1, 2] rfl 1 8 rfl rfl rfl rfl hl.1 rfl (Nat.le_of_ble_eq_true rfl) dX6_readNumber_33 ⟨Nat.zero_le _, Nat.zero_le _⟩ (fun r_33 hr_33 => ?_)
        have hr_33 : q_bat tn tf (pk + 1) = r_33 := (show r_33 = q_bat tn tf (pk + 1) from hr_33).symm
        subst hr_33
        refine q_si (As := [.int (q_bat tn tf (pk + 1))]) (rest := []) ⟨hx, hb, hml, hown, hts⟩ (c_X6_figure l (D := D) (cI := cI) (cB := cB) (cZ := cZ) (w := q_bat tn tf (pk + 1)) ) (va_cwS 1 hts gX6_readNumber_X6_figure rfl rfl rfl (by decide +kernel) ⟨Nat.le_of_ble_eq_true rfl, Nat.le_of_ble_eq_true rfl⟩) hK hP [] rfl rfl hl.1 rfl (Nat.le_of_ble_eq_true rfl) dX6_readNumber_36 ⟨Nat.zero_le _, Nat.zero_le _⟩ (fun r_36 hr_36 => ?_)
        have hr_36 : nI b1 = r_36 := (Eq.trans (show r_36 = q_fig (q_bat tn tf (pk + 1)) from hr_36) (by rw [q_figB hTx, ho2]; rfl)).symm
        subst hr_36
        refine lv_istore_n (lv' := [(3, .int (nI b1)), (2, .int (nI a)), (0, .ref rd), (1, .ref tx)]) hx hb dX6_readNumber_39 rfl hl (by decide) rfl (fun ls hl => ?_)
        refine lv_iload_n hx hb dX6_readNumber_40 rfl (lv_at hl 0 rfl) ?_
        refine q_zge (tgt := 46) hx hb dX6_readNumber_41 (by decide) (by have := q_dg_le ho2; omega) (fun c_41 => ?_) (fun c_41 => ?_)
        · refine lv_aload_n hx hb dX6_readNumber_46 rfl (lv_at hl 2 rfl) ?_
          refine lv_dup hx hb dX6_readNumber_47 rfl ?_
          refine q_get (ci := 6) (CC := RX6) (T := TX6) (N := 2) (v := .int (nI (pk + 1))) hx hb hts hin6 hown hK hP 0 rfl rfl 1 (by decide) (hts (.fieldLink RX6 15 "DearAsMany$Reader" "place" "I") (by decide +kernel)) rfl rfl dX6_readNumber_48 ?_
          refine lv_iconst (v := nI 1) hx hb dX6_readNumber_51 (by decide) ?_
          refine q_iadd (v := nI ((pk + 1) + 1)) hx hb dX6_readNumber_52 (nI_add _ _) ?_
          refine q_put (ci := 6) (CC := RX6) (T := TX6) (N := 2) (w2 := [(rd, .inr (6, [.ref rn, .int (nI ((pk + 1) + 1))])), (tx, .inr (8, [.ref tb, .int (nI tn)])), (tb, .inl (cB, 300, .inl tby))]) hx hb hts hin6 tyX6 tyX6_ok nmX6 hown hK hP hD hS 0 rfl rfl 1 (by decide) (hts (.fieldLink RX6 15 "DearAsMany$Reader" "place" "I") (by decide +kernel)) rfl rfl rfl (Nat.le_of_ble_eq_true rfl) dX6_readNumber_53 rfl (fun H locs hP hD hS => ?_)
          refine lv_bipush (v := nI 10) hx hb dX6_readNumber_56 (by decide) ?_
          refine lv_iload_n hx hb dX6_readNumber_58 rfl (lv_at hl 1 rfl) ?_
          refine q_imul (v := nI (10 * a)) hx hb dX6_readNumber_59 (q_mul _ _) ?_
          refine lv_iload_n hx hb dX6_readNumber_60 rfl (lv_at hl 0 rfl) ?_
          refine q_iadd (v := nI ((10 * a) + b1)) hx hb dX6_readNumber_61 (nI_add _ _) ?_
          have hP : va_P D vwCl [(rd, .inr (6, [.ref rn, .int (nI ((q_num tn tf pk).2))])), (tx, .inr (8, [.ref tb, .int (nI tn)])), (tb, .inl (cB, 300, .inl tby))] H := by rw [← show (nI ((pk + 1) + 1)) = (nI ((q_num tn tf pk).2)) from by simp only [q_num, ho, ho2]]; exact hP
          have hD : va_D A [(rd, .inr (6, [.ref rn, .int (nI ((q_num tn tf pk).2))])), (tx, .inr (8, [.ref tb, .int (nI tn)])), (tb, .inl (cB, 300, .inl tby))] := q_Dadr (by rfl) hD
          exact q_mret (S := Unit) (v := nI ((10 * a) + b1)) (w1 := fun _ => [(rd, .inr (6, [.ref rn, .int (nI ((q_num tn tf pk).2))])), (tx, .inr (8, [.ref tb, .int (nI tn)])), (tb, .inl (cB, 300, .inl tby))]) () hx hb hr hlocks (rfl) hP hS dX6_readNumber_62 (by simp only [q_num, ho, ho2, q_o1])
        · exfalso; omega
    · exfalso; omega

set_option maxHeartbeats 4000000 in
set_option maxRecDepth 100000 in
theorem c_X6_readNumbers (l : Launch) {D : va_G} {cI cB cZ : ClassId} {rd : Nat} {rn : Nat} {tx : Nat} {tb : Nat} {tn : Nat} {tby : Nat → Int32} {tf : Nat → Nat} {pk : Nat} {many : Nat} {nu : Nat → Int32} {zz : Nat} (hTx : q_Tx tn tf tby) (hpk : pk ≤ 300) (hmany : many ≤ 5) : Met l yX6_readNumbers wsX6_readNumbers ({ frames := 2, cells := 0, slots := 0, locals := 44 } : Room) (va_Pc [.ref rd, .ref tx, .int (nI many)] (q_M D (q_tys cI cB cZ) [(rd, .inr (6, [.ref rn, .int (nI pk)])), (rn, .inl (cI, 5, .inl nu)), (tx, .inr (8, [.ref tb, .int (nI tn)])), (tb, .inl (cB, 300, .inl tby))] zz)) (va_Qi (S := (Int32 × (Nat → Int32))) (fun r u => r = bI (q_ns tn tf many pk).isSome ∧ ∀ x, q_ns tn tf many pk = some x → u.1 = nI x.2 ∧ ∀ i, i < many → u.2 i = nI (x.1.getD i 0)) (fun u t => va_P D vwCl ((fun u => [(rd, .inr (6, [.ref rn, .int u.1])), (rn, .inl (cI, 5, .inl u.2)), (tx, .inr (8, [.ref tb, .int (nI tn)])), (tb, .inl (cB, 300, .inl tby))]) u) t.heap) (va_A [(rd, .inr (6, [.ref rn, .int (nI pk)])), (rn, .inl (cI, 5, .inl nu)), (tx, .inr (8, [.ref tb, .int (nI tn)])), (tb, .inl (cB, 300, .inl tby))] zz)) 0 0 (va_A [(rd, .inr (6, [.ref rn, .int (nI pk)])), (rn, .inl (cI, 5, .inl nu)), (tx, .inr (8, [.ref tb, .int (nI tn)])), (tb, .inl (cB, 300, .inl tby))] zz) := by
  refine Met.ofW (cc := cX6_readNumbers) (maxL := 5) (ret := (some .boolean)) (by decide) rfl ?_
  intro p e s m args below meth c s₁ B hml hv
  obtain ⟨rfl, hsz, hP, hK, hD0⟩ := hv
  have hx := B.exec
  have hb := B.bytes
  have hr := B.returns
  have hts := atoms_spec (ws := wsX6_readNumbers) B.pre
  have hown : s.vm.findClass RX6 = some m.cls := findClass_of_methodNamed B.named
  have hlocks := B.notSynchronized
  have hin6 : ∀ w ∈ u_ws RX6 TX6 2, w ∈ wsX6_readNumbers := by decide +kernel
  subst hsz
  have hD := hD0.self (sz := s.heap.size)
  generalize hAe : va_A [(rd, .inr (6, [.ref rn, .int (nI pk)])), (rn, .inl (cI, 5, .inl nu)), (tx, .inr (8, [.ref tb, .int (nI tn)])), (tb, .inl (cB, 300, .inl tby))] s.heap.size = A at hD ⊢
  have hA : ∀ q : Nat, s.heap.size ≤ q → A q := fun q h => by rw [← hAe]; exact Or.inr h
  have hS : va_S A s.heap s.heap [] := va_S.rf
  have hP : va_P D vwCl [(rd, .inr (6, [.ref rn, .int (nI pk)])), (rn, .inl (cI, 5, .inl nu)), (tx, .inr (8, [.ref tb, .int (nI tn)])), (tb, .inl (cB, 300, .inl tby))] s.heap := hP
  have hl := lv_entry ([.ref rd, .ref tx, .int (nI many)]) (n := 5) (Nat.le_of_ble_eq_true rfl)
  rw [lg_entry_eq]
  generalize (lg_sl ([.ref rd, .ref tx, .int (nI many)]) ++ List.replicate (5 - (lg_sl ([.ref rd, .ref tx, .int (nI many)])).length) Slot.unset).toArray = ls at hl ⊢
  have hl : lv_has ls 5 [(0, .ref rd), (1, .ref tx), (2, .int (nI many))] := hl
  have htn := hTx.1
  have hpk0 := hpk
  have L2 : ∀ (fuel : Nat) (k : Nat) (pq : Nat) (g : Nat → Int32) (pre : List Nat) (hk : k ≤ many) (hpq : pq ≤ 300) (hpre : pre.length = k ∧ ∀ i, i < k → g i = nI (pre.getD i 0)) (hSS : (q_ns tn tf many pk).isSome = (q_ns tn tf (many - k) pq).isSome ∧ ∀ x, q_ns tn tf (many - k) pq = some x → q_ns tn tf many pk = some (pre ++ x.1, x.2)) (hf : many - k < fuel) (H : Heap) (locs : List Loc) (hP : va_P D vwCl [(rd, .inr (6, [.ref rn, .int (nI pq)])), (rn, .inl (cI, 5, .inl g)), (tx, .inr (8, [.ref tb, .int (nI tn)])), (tb, .inl (cB, 300, .inl tby))] H) (hD : va_D A [(rd, .inr (6, [.ref rn, .int (nI pq)])), (rn, .inl (cI, 5, .inl g)), (tx, .inr (8, [.ref tb, .int (nI tn)])), (tb, .inl (cB, 300, .inl tby))]) (hS : va_S A s.heap H locs) (ls : Array Slot) (hl : lv_has ls 5 [(0, .ref rd), (1, .ref tx), (2, .int (nI many)), (3, .int (nI k))]), W p l e (headSpec wsX6_readNumbers ({ frames := 2, cells := 0, slots := 0, locals := 44 } : Room)).room s m ([.ref rd, .ref tx, .int (nI many)] : List Value).toArray below meth c H locs 0 0 (MQ below (va_Qi (S := (Int32 × (Nat → Int32))) (fun r u => r = bI (q_ns tn tf many pk).isSome ∧ ∀ x, q_ns tn tf many pk = some x → u.1 = nI x.2 ∧ ∀ i, i < many → u.2 i = nI (x.1.getD i 0)) (fun u t => va_P D vwCl ((fun u => [(rd, .inr (6, [.ref rn, .int u.1])), (rn, .inl (cI, 5, .inl u.2)), (tx, .inr (8, [.ref tb, .int (nI tn)])), (tb, .inl (cB, 300, .inl tby))]) u) t.heap) A) ([.ref rd, .ref tx, .int (nI many)] : List Value).toArray s 0 0 A) (F0 m 2 ls []) := by
    intro fuel
    induction fuel with
    | zero =>
      intro k pq g pre hk hpq hpre hSS hf H locs hP hD hS ls hl
      exact absurd hf (Nat.not_lt_zero _)
    | succ fuel ih2 =>
      intro k pq g pre hk hpq hpre hSS hf H locs hP hD hS ls hl
      refine lv_iload_n hx hb dX6_readNumbers_2 rfl (lv_at hl 3 rfl) ?_
      refine lv_iload_n hx hb dX6_readNumbers_3 rfl (lv_at hl 2 rfl) ?_
      refine q_nge (tgt := 72) hx hb dX6_readNumbers_4 (by decide) (by omega) (by omega) (fun c_4 => ?_) (fun c_4 => ?_)
      · refine lv_iconst (v := nI 1) hx hb dX6_readNumbers_72 (by decide) ?_
        exact q_mret (S := (Int32 × (Nat → Int32))) (v := nI 1) (w1 := fun u => [(rd, .inr (6, [.ref rn, .int u.1])), (rn, .inl (cI, 5, .inl u.2)), (tx, .inr (8, [.ref tb, .int (nI tn)])), (tb, .inl (cB, 300, .inl tby))]) (nI pq, g) hx hb hr hlocks (q_nar1) hP hS dX6_readNumbers_73 (by exact ⟨by rw [hSS.1, show many - k = 0 from by omega]; rfl, fun x hx9 => by have h9 := hSS.2 ([], pq) (by rw [show many - k = 0 from by omega]; rfl); rw [hx9] at h9; cases h9; exact ⟨rfl, fun i hi => by rw [List.append_nil]; exact hpre.2 i (by omega)⟩⟩)
      · obtain ⟨cq, hcq⟩ : ∃ cq, many - k = cq + 1 := ⟨many - k - 1, by omega⟩
        have hn2 := q_num_2 tn tf pq
        rcases ho : (q_num tn tf pq).1 with _ | v
        · refine lv_aload_n hx hb dX6_readNumbers_7 rfl (lv_at hl 0 rfl) ?_
          refine lv_aload_n hx hb dX6_readNumbers_8 rfl (lv_at hl 1 rfl) ?_
          refine q_vmi (S := Unit) (w1 := fun _ => [(rd, .inr (6, [.ref rn, .int (nI ((q_num tn tf pq).2))])), (tx, .inr (8, [.ref tb, .int (nI tn)])), (tb, .inl (cB, 300, .inl tby))]) (w2 := fun _ => [(rd, .inr (6, [.ref rn, .int (nI ((q_num tn tf pq).2))])), (rn, .inl (cI, 5, .inl g)), (tx, .inr (8, [.ref tb, .int (nI tn)])), (tb, .inl (cB, 300, .inl tby))]) (As := [.ref tx]) (rest := []) ⟨hx, hb, hml, hown, hts⟩ (c_X6_readNumber l (D := D) (cI := cI) (cB := cB) (cZ := cZ) (rd := rd) (rn := rn) (tx := tx) (tb := tb) (tn := tn) (tby := tby) (tf := tf) (pk := pq) (by first | assumption | exact Nat.zero_le _ | omega) (hpq)) (cwV 1 hts gX6_readNumbers_X6_readNumber rfl rfl rfl (by decide +kernel) ⟨Nat.le_of_ble_eq_true rfl, Nat.le_of_ble_eq_true rfl⟩) hK hP hD hS hA [0, 2, 3] rfl (by decide) 0 6 rfl rfl rfl rfl hl.1 rfl (Nat.le_of_ble_eq_true rfl) dX6_readNumbers_9 ⟨Nat.zero_le _, Nat.zero_le _⟩ (fun _ => rfl) (fun _ => rfl) (fun _ => rfl) (fun r_9 _ H locs hr_9 hP hD hS => ?_)
          have hP : va_P D vwCl [(rd, .inr (6, [.ref rn, .int (nI ((q_num tn tf pq).2))])), (rn, .inl (cI, 5, .inl g)), (tx, .inr (8, [.ref tb, .int (nI tn)])), (tb, .inl (cB, 300, .inl tby))] H := hP
          have hD : va_D A [(rd, .inr (6, [.ref rn, .int (nI ((q_num tn tf pq).2))])), (rn, .inl (cI, 5, .inl g)), (tx, .inr (8, [.ref tb, .int (nI tn)])), (tb, .inl (cB, 300, .inl tby))] := hD
          have hr_9 : (-1 : Int32) = r_9 := (Eq.trans (show r_9 = q_o1 (q_num tn tf pq).1 from hr_9) (by rw [ho]; rfl)).symm
          subst hr_9
          refine lv_istore (lv' := [(4, .int (-1 : Int32)), (0, .ref rd), (1, .ref tx), (2, .int (nI many)), (3, .int (nI k))]) hx hb dX6_readNumbers_12 hl (by decide) rfl (fun ls hl => ?_)
          refine lv_iload hx hb dX6_readNumbers_14 (lv_at hl 0 rfl) ?_
          refine lv_if_lt (x := (-1 : Int32)) (tgt := 44) hx hb dX6_readNumbers_16 (by decide) (fun c_16 => ?_) (fun c_16 => ?_)
          · refine lv_iconst (v := nI 0) hx hb dX6_readNumbers_44 (by decide) ?_
            exact q_mret (S := (Int32 × (Nat → Int32))) (v := nI 0) (w1 := fun u => [(rd, .inr (6, [.ref rn, .int u.1])), (rn, .inl (cI, 5, .inl u.2)), (tx, .inr (8, [.ref tb, .int (nI tn)])), (tb, .inl (cB, 300, .inl tby))]) (nI (q_num tn tf pq).2, g) hx hb hr hlocks (q_nar0) hP hS dX6_readNumbers_45 (by exact ⟨by rw [hSS.1, hcq, q_ns_n1 ho]; rfl, fun x hx9 => by have h9 := hSS.1; rw [hx9, hcq, q_ns_n1 ho] at h9; cases h9⟩)
          · exact absurd c_16 ((by decide))
        · refine lv_aload_n hx hb dX6_readNumbers_7 rfl (lv_at hl 0 rfl) ?_
          refine lv_aload_n hx hb dX6_readNumbers_8 rfl (lv_at hl 1 rfl) ?_
          refine q_vmi (S := Unit) (w1 := fun _ => [(rd, .inr (6, [.ref rn, .int (nI ((q_num tn tf pq).2))])), (tx, .inr (8, [.ref tb, .int (nI tn)])), (tb, .inl (cB, 300, .inl tby))]) (w2 := fun _ => [(rd, .inr (6, [.ref rn, .int (nI ((q_num tn tf pq).2))])), (rn, .inl (cI, 5, .inl g)), (tx, .inr (8, [.ref tb, .int (nI tn)])), (tb, .inl (cB, 300, .inl tby))]) (As := [.ref tx]) (rest := []) ⟨hx, hb, hml, hown, hts⟩ (c_X6_readNumber l (D := D) (cI := cI) (cB := cB) (cZ := cZ) (rd := rd) (rn := rn) (tx := tx) (tb := tb) (tn := tn) (tby := tby) (tf := tf) (pk := pq) (by first | assumption | exact Nat.zero_le _ | omega) (hpq)) (cwV 1 hts gX6_readNumbers_X6_readNumber rfl rfl rfl (by decide +kernel) ⟨Nat.le_of_ble_eq_true rfl, Nat.le_of_ble_eq_true rfl⟩) hK hP hD hS hA [0, 2, 3] rfl (by decide) 0 6 rfl rfl rfl rfl hl.1 rfl (Nat.le_of_ble_eq_true rfl) dX6_readNumbers_9 ⟨Nat.zero_le _, Nat.zero_le _⟩ (fun _ => rfl) (fun _ => rfl) (fun _ => rfl) (fun r_9 _ H locs hr_9 hP hD hS => ?_)
          have hP : va_P D vwCl [(rd, .inr (6, [.ref rn, .int (nI ((q_num tn tf pq).2))])), (rn, .inl (cI, 5, .inl g)), (tx, .inr (8, [.ref tb, .int (nI tn)])), (tb, .inl (cB, 300, .inl tby))] H := hP
          have hD : va_D A [(rd, .inr (6, [.ref rn, .int (nI ((q_num tn tf pq).2))])), (rn, .inl (cI, 5, .inl g)), (tx, .inr (8, [.ref tb, .int (nI tn)])), (tb, .inl (cB, 300, .inl tby))] := hD
          have hr_9 : nI v = r_9 := (Eq.trans (show r_9 = q_o1 (q_num tn tf pq).1 from hr_9) (by rw [ho]; rfl)).symm
          subst hr_9
          refine lv_istore (lv' := [(4, .int (nI v)), (0, .ref rd), (1, .ref tx), (2, .int (nI many)), (3, .int (nI k))]) hx hb dX6_readNumbers_12 hl (by decide) rfl (fun ls hl => ?_)
          refine lv_iload hx hb dX6_readNumbers_14 (lv_at hl 0 rfl) ?_
          refine q_zlt (tgt := 44) hx hb dX6_readNumbers_16 (by decide) (by have := q_num_le ho; omega) (fun c_16 => ?_) (fun c_16 => ?_)
          · exact absurd c_16 (Nat.not_lt_zero _)
          · refine lv_aload_n hx hb dX6_readNumbers_19 rfl (lv_at hl 2 rfl) ?_
            refine lv_aload_n hx hb dX6_readNumbers_20 rfl (lv_at hl 1 rfl) ?_
            refine q_get (ci := 6) (CC := RX6) (T := TX6) (N := 2) (v := .int (nI ((q_num tn tf pq).2))) hx hb hts hin6 hown hK hP 0 rfl rfl 1 (by decide) (hts (.fieldLink RX6 15 "DearAsMany$Reader" "place" "I") (by decide +kernel)) rfl rfl dX6_readNumbers_21 ?_
            refine q_vi (As := [.int (nI ((q_num tn tf pq).2))]) (rest := []) ⟨hx, hb, hml, hown, hts⟩ (c_X8_byteAt l (D := D) (cI := cI) (cB := cB) (cZ := cZ) (tx := tx) (tb := tb) (tn := tn) (tby := tby) (tf := tf) (p0 := (q_num tn tf pq).2) (by first | assumption | exact Nat.zero_le _ | omega) (by omega)) (cwV 1 hts gX6_readNumbers_X8_byteAt rfl rfl rfl (by decide +kernel) ⟨Nat.le_of_ble_eq_true rfl, Nat.le_of_ble_eq_true rfl⟩) hK hP [2, 3] rfl 2 8 rfl rfl rfl rfl hl.1 rfl (Nat.le_of_ble_eq_true rfl) dX6_readNumbers_24 ⟨Nat.zero_le _, Nat.zero_le _⟩ (fun r_24 hr_24 => ?_)
            have hr_24 : q_bat tn tf ((q_num tn tf pq).2) = r_24 := (show r_24 = q_bat tn tf ((q_num tn tf pq).2) from hr_24).symm
            subst hr_24
            refine lv_iload_n hx hb dX6_readNumbers_27 rfl (lv_at hl 4 rfl) ?_
            refine lv_iconst (v := nI 1) hx hb dX6_readNumbers_28 (by decide) ?_
            refine q_iadd (v := nI (k + 1)) hx hb dX6_readNumbers_29 (nI_add _ _) ?_
            refine lv_iload_n hx hb dX6_readNumbers_30 rfl (lv_at hl 3 rfl) ?_
            refine q_nge (tgt := 39) hx hb dX6_readNumbers_31 (by decide) (by omega) (by omega) (fun c_31 => ?_) (fun c_31 => ?_)
            · refine lv_bipush (v := nI 59) hx hb dX6_readNumbers_39 (by decide) ?_
              refine lv_icmp_eq (x := q_bat tn tf ((q_num tn tf pq).2)) (y := nI 59) (tgt := 46) hx hb dX6_readNumbers_41 (by decide) (fun c_41 => ?_) (fun c_41 => ?_)
              · have hcd : (q_num tn tf pq).2 < tn ∧ tf (q_num tn tf pq).2 = (if cq = 0 then 59 else 44) := by rw [if_pos (by omega)]; exact (q_batEq hTx (by decide)).mp c_41
                refine lv_aload_n hx hb dX6_readNumbers_46 rfl (lv_at hl 1 rfl) ?_
                refine lv_dup hx hb dX6_readNumbers_47 rfl ?_
                refine q_get (ci := 6) (CC := RX6) (T := TX6) (N := 2) (v := .int (nI ((q_num tn tf pq).2))) hx hb hts hin6 hown hK hP 0 rfl rfl 1 (by decide) (hts (.fieldLink RX6 15 "DearAsMany$Reader" "place" "I") (by decide +kernel)) rfl rfl dX6_readNumbers_48 ?_
                refine lv_iconst (v := nI 1) hx hb dX6_readNumbers_51 (by decide) ?_
                refine q_iadd (v := nI (((q_num tn tf pq).2) + 1)) hx hb dX6_readNumbers_52 (nI_add _ _) ?_
                refine q_put (ci := 6) (CC := RX6) (T := TX6) (N := 2) (w2 := [(rd, .inr (6, [.ref rn, .int (nI (((q_num tn tf pq).2) + 1))])), (rn, .inl (cI, 5, .inl g)), (tx, .inr (8, [.ref tb, .int (nI tn)])), (tb, .inl (cB, 300, .inl tby))]) hx hb hts hin6 tyX6 tyX6_ok nmX6 hown hK hP hD hS 0 rfl rfl 1 (by decide) (hts (.fieldLink RX6 15 "DearAsMany$Reader" "place" "I") (by decide +kernel)) rfl rfl rfl (Nat.le_of_ble_eq_true rfl) dX6_readNumbers_53 rfl (fun H locs hP hD hS => ?_)
                refine lv_aload_n hx hb dX6_readNumbers_56 rfl (lv_at hl 1 rfl) ?_
                refine q_get (ci := 6) (CC := RX6) (T := TX6) (N := 2) (v := .ref rn) hx hb hts hin6 hown hK hP 0 rfl rfl 0 (by decide) (hts (.fieldLink RX6 9 "DearAsMany$Reader" "numbers" "[I") (by decide +kernel)) rfl rfl dX6_readNumbers_57 ?_
                refine lv_iload_n hx hb dX6_readNumbers_60 rfl (lv_at hl 4 rfl) ?_
                refine lv_iload hx hb dX6_readNumbers_61 (lv_at hl 0 rfl) ?_
                refine q_nmv (S := Unit) (w1 := fun _ => [(rn, .inl (cI, 5, .inl (upd g k (nI v))))]) (w2 := fun _ => [(rd, .inr (6, [.ref rn, .int (nI (((q_num tn tf pq).2) + 1))])), (rn, .inl (cI, 5, .inl (upd g k (nI v)))), (tx, .inr (8, [.ref tb, .int (nI tn)])), (tb, .inl (cB, 300, .inl tby))]) (As := [.ref rn, .int (nI k), .int (nI v)]) (rest := []) ⟨hx, hb, hml, hown, hts⟩ (c_X9_put l (D := D) (cI := cI) (cB := cB) (cZ := cZ) (a := rn) (N := 5) (k := k) (f := g) (x := nI v) (by omega) (by decide)) ⟨va_cnB 3 hts gX6_readNumbers_X9_put_n60 rfl rfl rfl (hK.2.at 19 rfl) (hts (.initialized RX9) (by decide +kernel)) (by decide +kernel) ⟨Nat.le_of_ble_eq_true rfl, Nat.le_of_ble_eq_true rfl⟩, hts (.static yX9_put) (by decide +kernel), trivial⟩ hK hP hD hS hA [1] rfl (by decide) rfl hl.1 rfl (Nat.le_of_ble_eq_true rfl) dX6_readNumbers_63 ⟨Nat.zero_le _, Nat.zero_le _⟩ (fun _ => rfl) (fun _ => rfl) (fun _ => rfl) (fun _ H locs hr_63 hP hD hS => ?_)
                have hP : va_P D vwCl [(rd, .inr (6, [.ref rn, .int (nI (((q_num tn tf pq).2) + 1))])), (rn, .inl (cI, 5, .inl (upd g k (nI v)))), (tx, .inr (8, [.ref tb, .int (nI tn)])), (tb, .inl (cB, 300, .inl tby))] H := hP
                have hD : va_D A [(rd, .inr (6, [.ref rn, .int (nI (((q_num tn tf pq).2) + 1))])), (rn, .inl (cI, 5, .inl (upd g k (nI v)))), (tx, .inr (8, [.ref tb, .int (nI tn)])), (tb, .inl (cB, 300, .inl tby))] := hD
                refine lv_iinc (v := nI (k + 1)) (lv' := [(3, .int (nI (k + 1))), (4, .int (nI v)), (0, .ref rd), (1, .ref tx), (2, .int (nI many))]) hx hb dX6_readNumbers_66 hl (k := 4) rfl (nI_add _ 1) (by decide) rfl (fun ls hl => ?_)
                refine lv_goto (tgt := 2) hx hb dX6_readNumbers_69 (by decide) ?_
                exact ih2 (k + 1) (((q_num tn tf pq).2) + 1) (upd g k (nI v)) (pre ++ [v]) (by first | assumption | exact Nat.zero_le _ | omega) (by omega) (q_preS hpre) (by rw [hcq, q_ns_s ho hcd] at hSS; rw [show many - (k + 1) = cq from by omega]; exact q_nsS hSS) (by omega) _ _ hP hD hS ls (lv_sub hl [2, 3, 4, 0] rfl)
              · refine lv_iconst (v := nI 0) hx hb dX6_readNumbers_44 (by decide) ?_
                exact q_mret (S := (Int32 × (Nat → Int32))) (v := nI 0) (w1 := fun u => [(rd, .inr (6, [.ref rn, .int u.1])), (rn, .inl (cI, 5, .inl u.2)), (tx, .inr (8, [.ref tb, .int (nI tn)])), (tb, .inl (cB, 300, .inl tby))]) (nI (q_num tn tf pq).2, g) hx hb hr hlocks (q_nar0) hP hS dX6_readNumbers_45 (by exact ⟨by rw [hSS.1, hcq, q_ns_n2 ho (fun z => c_41 ((q_batEq hTx (by decide)).mpr ⟨z.1, by rw [z.2, if_pos (by omega)]⟩))]; rfl, fun x hx9 => by have h9 := hSS.1; rw [hx9, hcq, q_ns_n2 ho (fun z => c_41 ((q_batEq hTx (by decide)).mpr ⟨z.1, by rw [z.2, if_pos (by omega)]⟩))] at h9; cases h9⟩)
            · refine lv_bipush (v := nI 44) hx hb dX6_readNumbers_34 (by decide) ?_
              refine lv_goto (tgt := 41) hx hb dX6_readNumbers_36 (by decide) ?_
              refine lv_icmp_eq (x := q_bat tn tf ((q_num tn tf pq).2)) (y := nI 44) (tgt := 46) hx hb dX6_readNumbers_41 (by decide) (fun c_41 => ?_) (fun c_41 => ?_)
              · have hcd : (q_num tn tf pq).2 < tn ∧ tf (q_num tn tf pq).2 = (if cq = 0 then 59 else 44) := by rw [if_neg (by omega)]; exact (q_batEq hTx (by decide)).mp c_41
                refine lv_aload_n hx hb dX6_readNumbers_46 rfl (lv_at hl 1 rfl) ?_
                refine lv_dup hx hb dX6_readNumbers_47 rfl ?_
                refine q_get (ci := 6) (CC := RX6) (T := TX6) (N := 2) (v := .int (nI ((q_num tn tf pq).2))) hx hb hts hin6 hown hK hP 0 rfl rfl 1 (by decide) (hts (.fieldLink RX6 15 "DearAsMany$Reader" "place" "I") (by decide +kernel)) rfl rfl dX6_readNumbers_48 ?_
                refine lv_iconst (v := nI 1) hx hb dX6_readNumbers_51 (by decide) ?_
                refine q_iadd (v := nI (((q_num tn tf pq).2) + 1)) hx hb dX6_readNumbers_52 (nI_add _ _) ?_
                refine q_put (ci := 6) (CC := RX6) (T := TX6) (N := 2) (w2 := [(rd, .inr (6, [.ref rn, .int (nI (((q_num tn tf pq).2) + 1))])), (rn, .inl (cI, 5, .inl g)), (tx, .inr (8, [.ref tb, .int (nI tn)])), (tb, .inl (cB, 300, .inl tby))]) hx hb hts hin6 tyX6 tyX6_ok nmX6 hown hK hP hD hS 0 rfl rfl 1 (by decide) (hts (.fieldLink RX6 15 "DearAsMany$Reader" "place" "I") (by decide +kernel)) rfl rfl rfl (Nat.le_of_ble_eq_true rfl) dX6_readNumbers_53 rfl (fun H locs hP hD hS => ?_)
                refine lv_aload_n hx hb dX6_readNumbers_56 rfl (lv_at hl 1 rfl) ?_
                refine q_get (ci := 6) (CC := RX6) (T := TX6) (N := 2) (v := .ref rn) hx hb hts hin6 hown hK hP 0 rfl rfl 0 (by decide) (hts (.fieldLink RX6 9 "DearAsMany$Reader" "numbers" "[I") (by decide +kernel)) rfl rfl dX6_readNumbers_57 ?_
                refine lv_iload_n hx hb dX6_readNumbers_60 rfl (lv_at hl 4 rfl) ?_
                refine lv_iload hx hb dX6_readNumbers_61 (lv_at hl 0 rfl) ?_
                refine q_nmv (S := Unit) (w1 := fun _ => [(rn, .inl (cI, 5, .inl (upd g k (nI v))))]) (w2 := fun _ => [(rd, .inr (6, [.ref rn, .int (nI (((q_num tn tf pq).2) + 1))])), (rn, .inl (cI, 5, .inl (upd g k (nI v)))), (tx, .inr (8, [.ref tb, .int (nI tn)])), (tb, .inl (cB, 300, .inl tby))]) (As := [.ref rn, .int (nI k), .int (nI v)]) (rest := []) ⟨hx, hb, hml, hown, hts⟩ (c_X9_put l (D := D) (cI := cI) (cB := cB) (cZ := cZ) (a := rn) (N := 5) (k := k) (f := g) (x := nI v) (by omega) (by decide)) ⟨va_cnB 3 hts gX6_readNumbers_X9_put_n60 rfl rfl rfl (hK.2.at 19 rfl) (hts (.initialized RX9) (by decide +kernel)) (by decide +kernel) ⟨Nat.le_of_ble_eq_true rfl, Nat.le_of_ble_eq_true rfl⟩, hts (.static yX9_put) (by decide +kernel), trivial⟩ hK hP hD hS hA [1] rfl (by decide) rfl hl.1 rfl (Nat.le_of_ble_eq_true rfl) dX6_readNumbers_63 ⟨Nat.zero_le _, Nat.zero_le _⟩ (fun _ => rfl) (fun _ => rfl) (fun _ => rfl) (fun _ H locs hr_63 hP hD hS => ?_)
                have hP : va_P D vwCl [(rd, .inr (6, [.ref rn, .int (nI (((q_num tn tf pq).2) + 1))])), (rn, .inl (cI, 5, .inl (upd g k (nI v)))), (tx, .inr (8, [.ref tb, .int (nI tn)])), (tb, .inl (cB, 300, .inl tby))] H := hP
                have hD : va_D A [(rd, .inr (6, [.ref rn, .int (nI (((q_num tn tf pq).2) + 1))])), (rn, .inl (cI, 5, .inl (upd g k (nI v)))), (tx, .inr (8, [.ref tb, .int (nI tn)])), (tb, .inl (cB, 300, .inl tby))] := hD
                refine lv_iinc (v := nI (k + 1)) (lv' := [(3, .int (nI (k + 1))), (4, .int (nI v)), (0, .ref rd), (1, .ref tx), (2, .int (nI many))]) hx hb dX6_readNumbers_66 hl (k := 4) rfl (nI_add _ 1) (by decide) rfl (fun ls hl => ?_)
                refine lv_goto (tgt := 2) hx hb dX6_readNumbers_69 (by decide) ?_
                exact ih2 (k + 1) (((q_num tn tf pq).2) + 1) (upd g k (nI v)) (pre ++ [v]) (by first | assumption | exact Nat.zero_le _ | omega) (by omega) (q_preS hpre) (by rw [hcq, q_ns_s ho hcd] at hSS; rw [show many - (k + 1) = cq from by omega]; exact q_nsS hSS) (by omega) _ _ hP hD hS ls (lv_sub hl [2, 3, 4, 0] rfl)
              · refine lv_iconst (v := nI 0) hx hb dX6_readNumbers_44 (by decide) ?_
                exact q_mret (S := (Int32 × (Nat → Int32))) (v := nI 0) (w1 := fun u => [(rd, .inr (6, [.ref rn, .int u.1])), (rn, .inl (cI, 5, .inl u.2)), (tx, .inr (8, [.ref tb, .int (nI tn)])), (tb, .inl (cB, 300, .inl tby))]) (nI (q_num tn tf pq).2, g) hx hb hr hlocks (q_nar0) hP hS dX6_readNumbers_45 (by exact ⟨by rw [hSS.1, hcq, q_ns_n2 ho (fun z => c_41 ((q_batEq hTx (by decide)).mpr ⟨z.1, by rw [z.2, if_neg (by omega)]⟩))]; rfl, fun x hx9 => by have h9 := hSS.1; rw [hx9, hcq, q_ns_n2 ho (fun z => c_41 ((q_batEq hTx (by decide)).mpr ⟨z.1, by rw [z.2, if_neg (by omega)]⟩))] at h9; cases h9⟩)
  refine lv_iconst (v := nI 0) hx hb dX6_readNumbers_0 (by decide) ?_
  refine lv_istore_n (lv' := [(3, .int (nI 0)), (0, .ref rd), (1, .ref tx), (2, .int (nI many))]) hx hb dX6_readNumbers_1 rfl hl (by decide) rfl (fun ls hl => ?_)
  exact L2 _ 0 pk nu ([]) (by first | assumption | exact Nat.zero_le _ | omega) (hpk) (⟨rfl, fun i h => absurd h (Nat.not_lt_zero _)⟩) (⟨rfl, fun x hx9 => hx9⟩) (Nat.lt_succ_self _) _ _ hP hD hS ls (lv_sub hl [1, 2, 3, 0] rfl)

set_option maxHeartbeats 4000000 in
set_option maxRecDepth 100000 in
theorem c_X4_clear (l : Launch) {D : va_G} {cI cB cZ : ClassId} {hp : Nat} {ht : Nat} {sz : Int32} {fo : Int32} {ss : Int32} {zz : Nat} : Met l yX4_clear wsX4_clear ({ frames := 0, cells := 0, slots := 0, locals := 0 } : Room) (va_Pc [.ref hp] (q_M D (q_tys cI cB cZ) [(hp, .inr (4, [.ref ht, .int sz, .int fo, .int ss]))] zz)) (va_Qv (S := Unit) (fun _ => True) (fun u t => va_P D vwCl ((fun _ => [(hp, .inr (4, [.ref ht, .int (nI 0), .int (nI 0), .int (nI 50)]))]) u) t.heap) (va_A [(hp, .inr (4, [.ref ht, .int sz, .int fo, .int ss]))] zz)) 0 0 (va_A [(hp, .inr (4, [.ref ht, .int sz, .int fo, .int ss]))] zz) := by
  refine Met.ofW (cc := cX4_clear) (maxL := 1) (ret := none) (by decide) rfl ?_
  intro p e s m args below meth c s₁ B hml hv
  obtain ⟨rfl, hsz, hP, hK, hD0⟩ := hv
  have hx := B.exec
  have hb := B.bytes
  have hr := B.returns
  have hts := atoms_spec (ws := wsX4_clear) B.pre
  have hown : s.vm.findClass RX4 = some m.cls := findClass_of_methodNamed B.named
  have hlocks := B.notSynchronized
  have hin4 : ∀ w ∈ u_ws RX4 TX4 4, w ∈ wsX4_clear := by decide +kernel
  subst hsz
  have hD := hD0.self (sz := s.heap.size)
  generalize hAe : va_A [(hp, .inr (4, [.ref ht, .int sz, .int fo, .int ss]))] s.heap.size = A at hD ⊢
  have hA : ∀ q : Nat, s.heap.size ≤ q → A q := fun q h => by rw [← hAe]; exact Or.inr h
  have hS : va_S A s.heap s.heap [] := va_S.rf
  have hP : va_P D vwCl [(hp, .inr (4, [.ref ht, .int sz, .int fo, .int ss]))] s.heap := hP
  have hl := lv_entry ([.ref hp]) (n := 1) (Nat.le_of_ble_eq_true rfl)
  rw [lg_entry_eq]
  generalize (lg_sl ([.ref hp]) ++ List.replicate (1 - (lg_sl ([.ref hp])).length) Slot.unset).toArray = ls at hl ⊢
  have hl : lv_has ls 1 [(0, .ref hp)] := hl
  refine lv_aload_n hx hb dX4_clear_0 rfl (lv_at hl 0 rfl) ?_
  refine lv_iconst (v := nI 0) hx hb dX4_clear_1 (by decide) ?_
  refine q_put (ci := 4) (CC := RX4) (T := TX4) (N := 4) (w2 := [(hp, .inr (4, [.ref ht, .int (nI 0), .int fo, .int ss]))]) hx hb hts hin4 tyX4 tyX4_ok nmX4 hown hK hP hD hS 0 rfl rfl 1 (by decide) (hts (.fieldLink RX4 15 "DearAsMany$People" "size" "I") (by decide +kernel)) rfl rfl rfl (Nat.le_of_ble_eq_true rfl) dX4_clear_2 rfl (fun H locs hP hD hS => ?_)
  refine lv_aload_n hx hb dX4_clear_5 rfl (lv_at hl 0 rfl) ?_
  refine lv_iconst (v := nI 0) hx hb dX4_clear_6 (by decide) ?_
  refine q_put (ci := 4) (CC := RX4) (T := TX4) (N := 4) (w2 := [(hp, .inr (4, [.ref ht, .int (nI 0), .int (nI 0), .int ss]))]) hx hb hts hin4 tyX4 tyX4_ok nmX4 hown hK hP hD hS 0 rfl rfl 2 (by decide) (hts (.fieldLink RX4 19 "DearAsMany$People" "firstOwners" "I") (by decide +kernel)) rfl rfl rfl (Nat.le_of_ble_eq_true rfl) dX4_clear_7 rfl (fun H locs hP hD hS => ?_)
  refine lv_aload_n hx hb dX4_clear_10 rfl (lv_at hl 0 rfl) ?_
  refine lv_bipush (v := nI 50) hx hb dX4_clear_11 (by decide) ?_
  refine q_put (ci := 4) (CC := RX4) (T := TX4) (N := 4) (w2 := [(hp, .inr (4, [.ref ht, .int (nI 0), .int (nI 0), .int (nI 50)]))]) hx hb hts hin4 tyX4 tyX4_ok nmX4 hown hK hP hD hS 0 rfl rfl 3 (by decide) (hts (.fieldLink RX4 22 "DearAsMany$People" "season" "I") (by decide +kernel)) rfl rfl rfl (Nat.le_of_ble_eq_true rfl) dX4_clear_13 rfl (fun H locs hP hD hS => ?_)
  exact q_mretv (S := Unit) (w1 := fun _ => [(hp, .inr (4, [.ref ht, .int (nI 0), .int (nI 0), .int (nI 50)]))]) () hx hb hr hlocks hP hS dX4_clear_16 (trivial)

set_option maxHeartbeats 4000000 in
set_option maxRecDepth 100000 in
theorem c_X4_add (l : Launch) {D : va_G} {cI cB cZ : ClassId} {hp : Nat} {ht : Nat} {m1 : Nat} {k0 : Nat} {k1 : Nat} {k2 : Nat} {k3 : Nat} {k4 : Nat} {fo : Int32} {ss : Int32} {tr : Nat → Int32} {zz : Nat} (hm1 : m1 ≤ 7) (hk0 : k0 < 2147483648) (hk2 : k2 < 2147483648) (hk3 : k3 < 2147483648) : Met l yX4_add wsX4_add ({ frames := 1, cells := 0, slots := 0, locals := 22 } : Room) (va_Pc [.ref hp, .int (nI k0), .int (nI k1), .int (nI k2), .int (nI k3), .int (nI k4)] (q_M D (q_tys cI cB cZ) [(hp, .inr (4, [.ref ht, .int (nI m1), .int fo, .int ss])), (ht, .inl (cI, 35, .inl tr))] zz)) (va_Qi (S := (Nat × (Nat → Int32))) (fun r u => r = bI (q_adOk m1 k0 k2 k3) ∧ (q_adOk m1 k0 k2 k3 = true → u.1 = m1 + 1 ∧ ∀ R, q_Tr R m1 tr → q_Tr (q_upT R m1 k0 k1 k2 k3 k4) (m1 + 1) u.2)) (fun u t => va_P D vwCl ((fun u => [(hp, .inr (4, [.ref ht, .int (nI u.1), .int fo, .int ss])), (ht, .inl (cI, 35, .inl u.2))]) u) t.heap) (va_A [(hp, .inr (4, [.ref ht, .int (nI m1), .int fo, .int ss])), (ht, .inl (cI, 35, .inl tr))] zz)) 0 0 (va_A [(hp, .inr (4, [.ref ht, .int (nI m1), .int fo, .int ss])), (ht, .inl (cI, 35, .inl tr))] zz) := by
  refine Met.ofW (cc := cX4_add) (maxL := 6) (ret := (some .boolean)) (by decide) rfl ?_
  intro p e s m args below meth c s₁ B hml hv
  obtain ⟨rfl, hsz, hP, hK, hD0⟩ := hv
  have hx := B.exec
  have hb := B.bytes
  have hr := B.returns
  have hts := atoms_spec (ws := wsX4_add) B.pre
  have hown : s.vm.findClass RX4 = some m.cls := findClass_of_methodNamed B.named
  have hlocks := B.notSynchronized
  have hin4 : ∀ w ∈ u_ws RX4 TX4 4, w ∈ wsX4_add := by decide +kernel
  subst hsz
  have hD := hD0.self (sz := s.heap.size)
  generalize hAe : va_A [(hp, .inr (4, [.ref ht, .int (nI m1), .int fo, .int ss])), (ht, .inl (cI, 35, .inl tr))] s.heap.size = A at hD ⊢
  have hA : ∀ q : Nat, s.heap.size ≤ q → A q := fun q h => by rw [← hAe]; exact Or.inr h
  have hS : va_S A s.heap s.heap [] := va_S.rf
  have hP : va_P D vwCl [(hp, .inr (4, [.ref ht, .int (nI m1), .int fo, .int ss])), (ht, .inl (cI, 35, .inl tr))] s.heap := hP
  have hl := lv_entry ([.ref hp, .int (nI k0), .int (nI k1), .int (nI k2), .int (nI k3), .int (nI k4)]) (n := 6) (Nat.le_of_ble_eq_true rfl)
  rw [lg_entry_eq]
  generalize (lg_sl ([.ref hp, .int (nI k0), .int (nI k1), .int (nI k2), .int (nI k3), .int (nI k4)]) ++ List.replicate (6 - (lg_sl ([.ref hp, .int (nI k0), .int (nI k1), .int (nI k2), .int (nI k3), .int (nI k4)])).length) Slot.unset).toArray = ls at hl ⊢
  have hl : lv_has ls 6 [(0, .ref hp), (1, .int (nI k0)), (2, .int (nI k1)), (3, .int (nI k2)), (4, .int (nI k3)), (5, .int (nI k4))] := hl
  refine lv_aload_n hx hb dX4_add_0 rfl (lv_at hl 0 rfl) ?_
  refine q_get (ci := 4) (CC := RX4) (T := TX4) (N := 4) (v := .int (nI m1)) hx hb hts hin4 hown hK hP 0 rfl rfl 1 (by decide) (hts (.fieldLink RX4 15 "DearAsMany$People" "size" "I") (by decide +kernel)) rfl rfl dX4_add_1 ?_
  refine lv_bipush (v := nI 7) hx hb dX4_add_4 (by decide) ?_
  refine q_nge (tgt := 27) hx hb dX4_add_6 (by decide) (by omega) (by omega) (fun c_6 => ?_) (fun c_6 => ?_)
  · refine lv_iconst (v := nI 0) hx hb dX4_add_27 (by decide) ?_
    exact q_mret (S := (Nat × (Nat → Int32))) (v := nI 0) (w1 := fun u => [(hp, .inr (4, [.ref ht, .int (nI u.1), .int fo, .int ss])), (ht, .inl (cI, 35, .inl u.2))]) (m1, tr) hx hb hr hlocks (q_nar0) hP hS dX4_add_28 (by exact ⟨by rw [show q_adOk m1 k0 k2 k3 = false from decide_eq_false (by omega)]; rfl, fun h => by rw [show q_adOk m1 k0 k2 k3 = false from decide_eq_false (by omega)] at h; cases h⟩)
  · refine lv_iload_n hx hb dX4_add_9 rfl (lv_at hl 1 rfl) ?_
    refine lv_iconst (v := nI 3) hx hb dX4_add_10 (by decide) ?_
    refine q_ngt (tgt := 27) hx hb dX4_add_11 (by decide) (by omega) (by omega) (fun c_11 => ?_) (fun c_11 => ?_)
    · refine lv_iconst (v := nI 0) hx hb dX4_add_27 (by decide) ?_
      exact q_mret (S := (Nat × (Nat → Int32))) (v := nI 0) (w1 := fun u => [(hp, .inr (4, [.ref ht, .int (nI u.1), .int fo, .int ss])), (ht, .inl (cI, 35, .inl u.2))]) (m1, tr) hx hb hr hlocks (q_nar0) hP hS dX4_add_28 (by exact ⟨by rw [show q_adOk m1 k0 k2 k3 = false from decide_eq_false (by omega)]; rfl, fun h => by rw [show q_adOk m1 k0 k2 k3 = false from decide_eq_false (by omega)] at h; cases h⟩)
    · refine lv_iload_n hx hb dX4_add_14 rfl (lv_at hl 3 rfl) ?_
      refine lv_bipush (v := nI 18) hx hb dX4_add_15 (by decide) ?_
      refine q_ngt (tgt := 27) hx hb dX4_add_17 (by decide) (by omega) (by omega) (fun c_17 => ?_) (fun c_17 => ?_)
      · refine lv_iconst (v := nI 0) hx hb dX4_add_27 (by decide) ?_
        exact q_mret (S := (Nat × (Nat → Int32))) (v := nI 0) (w1 := fun u => [(hp, .inr (4, [.ref ht, .int (nI u.1), .int fo, .int ss])), (ht, .inl (cI, 35, .inl u.2))]) (m1, tr) hx hb hr hlocks (q_nar0) hP hS dX4_add_28 (by exact ⟨by rw [show q_adOk m1 k0 k2 k3 = false from decide_eq_false (by omega)]; rfl, fun h => by rw [show q_adOk m1 k0 k2 k3 = false from decide_eq_false (by omega)] at h; cases h⟩)
      · refine lv_iload hx hb dX4_add_20 (lv_at hl 4 rfl) ?_
        refine lv_bipush (v := nI 8) hx hb dX4_add_22 (by decide) ?_
        refine q_nlt (tgt := 29) hx hb dX4_add_24 (by decide) (by omega) (by omega) (fun c_24 => ?_) (fun c_24 => ?_)
        · refine lv_aload_n hx hb dX4_add_29 rfl (lv_at hl 0 rfl) ?_
          refine q_get (ci := 4) (CC := RX4) (T := TX4) (N := 4) (v := .ref ht) hx hb hts hin4 hown hK hP 0 rfl rfl 0 (by decide) (hts (.fieldLink RX4 9 "DearAsMany$People" "traits" "[I") (by decide +kernel)) rfl rfl dX4_add_30 ?_
          refine lv_aload_n hx hb dX4_add_33 rfl (lv_at hl 0 rfl) ?_
          refine q_get (ci := 4) (CC := RX4) (T := TX4) (N := 4) (v := .int (nI m1)) hx hb hts hin4 hown hK hP 0 rfl rfl 1 (by decide) (hts (.fieldLink RX4 15 "DearAsMany$People" "size" "I") (by decide +kernel)) rfl rfl dX4_add_34 ?_
          refine lv_iconst (v := nI 5) hx hb dX4_add_37 (by decide) ?_
          refine q_imul (v := nI (m1 * 5)) hx hb dX4_add_38 (q_mul _ _) ?_
          refine lv_iconst (v := nI 0) hx hb dX4_add_39 (by decide) ?_
          refine q_iadd (v := nI ((m1 * 5) + 0)) hx hb dX4_add_40 (nI_add _ _) ?_
          refine lv_iload_n hx hb dX4_add_41 rfl (lv_at hl 1 rfl) ?_
          refine q_nmv (S := Unit) (w1 := fun _ => [(ht, .inl (cI, 35, .inl (upd tr ((m1 * 5) + 0) (nI k0))))]) (w2 := fun _ => [(hp, .inr (4, [.ref ht, .int (nI m1), .int fo, .int ss])), (ht, .inl (cI, 35, .inl (upd tr ((m1 * 5) + 0) (nI k0))))]) (As := [.ref ht, .int (nI ((m1 * 5) + 0)), .int (nI k0)]) (rest := []) ⟨hx, hb, hml, hown, hts⟩ (c_X9_put l (D := D) (cI := cI) (cB := cB) (cZ := cZ) (a := ht) (N := 35) (k := (m1 * 5) + 0) (f := tr) (x := nI k0) (by omega) (by decide)) ⟨va_cnB 3 hts gX4_add_X9_put_n25 rfl rfl rfl (hK.2.at 13 rfl) (hts (.initialized RX9) (by decide +kernel)) (by decide +kernel) ⟨Nat.le_of_ble_eq_true rfl, Nat.le_of_ble_eq_true rfl⟩, hts (.static yX9_put) (by decide +kernel), trivial⟩ hK hP hD hS hA [1] rfl (by decide) rfl hl.1 rfl (Nat.le_of_ble_eq_true rfl) dX4_add_42 ⟨Nat.zero_le _, Nat.zero_le _⟩ (fun _ => rfl) (fun _ => rfl) (fun _ => rfl) (fun _ H locs hr_42 hP hD hS => ?_)
          have hP : va_P D vwCl [(hp, .inr (4, [.ref ht, .int (nI m1), .int fo, .int ss])), (ht, .inl (cI, 35, .inl (upd tr ((m1 * 5) + 0) (nI k0))))] H := hP
          have hD : va_D A [(hp, .inr (4, [.ref ht, .int (nI m1), .int fo, .int ss])), (ht, .inl (cI, 35, .inl (upd tr ((m1 * 5) + 0) (nI k0))))] := hD
          refine lv_aload_n hx hb dX4_add_45 rfl (lv_at hl 0 rfl) ?_
          refine q_get (ci := 4) (CC := RX4) (T := TX4) (N := 4) (v := .ref ht) hx hb hts hin4 hown hK hP 0 rfl rfl 0 (by decide) (hts (.fieldLink RX4 9 "DearAsMany$People" "traits" "[I") (by decide +kernel)) rfl rfl dX4_add_46 ?_
          refine lv_aload_n hx hb dX4_add_49 rfl (lv_at hl 0 rfl) ?_
          refine q_get (ci := 4) (CC := RX4) (T := TX4) (N := 4) (v := .int (nI m1)) hx hb hts hin4 hown hK hP 0 rfl rfl 1 (by decide) (hts (.fieldLink RX4 15 "DearAsMany$People" "size" "I") (by decide +kernel)) rfl rfl dX4_add_50 ?_
          refine lv_iconst (v := nI 5) hx hb dX4_add_53 (by decide) ?_
          refine q_imul (v := nI (m1 * 5)) hx hb dX4_add_54 (q_mul _ _) ?_
          refine lv_iconst (v := nI 1) hx hb dX4_add_55 (by decide) ?_
          refine q_iadd (v := nI ((m1 * 5) + 1)) hx hb dX4_add_56 (nI_add _ _) ?_
          refine lv_iload_n hx hb dX4_add_57 rfl (lv_at hl 2 rfl) ?_
          refine q_nmv (S := Unit) (w1 := fun _ => [(ht, .inl (cI, 35, .inl (upd (upd tr ((m1 * 5) + 0) (nI k0)) ((m1 * 5) + 1) (nI k1))))]) (w2 := fun _ => [(hp, .inr (4, [.ref ht, .int (nI m1), .int fo, .int ss])), (ht, .inl (cI, 35, .inl (upd (upd tr ((m1 * 5) + 0) (nI k0)) ((m1 * 5) + 1) (nI k1))))]) (As := [.ref ht, .int (nI ((m1 * 5) + 1)), .int (nI k1)]) (rest := []) ⟨hx, hb, hml, hown, hts⟩ (c_X9_put l (D := D) (cI := cI) (cB := cB) (cZ := cZ) (a := ht) (N := 35) (k := (m1 * 5) + 1) (f := upd tr ((m1 * 5) + 0) (nI k0)) (x := nI k1) (by omega) (by decide)) ⟨va_cnB 3 hts gX4_add_X9_put_n25 rfl rfl rfl (hK.2.at 13 rfl) (hts (.initialized RX9) (by decide +kernel)) (by decide +kernel) ⟨Nat.le_of_ble_eq_true rfl, Nat.le_of_ble_eq_true rfl⟩, hts (.static yX9_put) (by decide +kernel), trivial⟩ hK hP hD hS hA [1] rfl (by decide) rfl hl.1 rfl (Nat.le_of_ble_eq_true rfl) dX4_add_58 ⟨Nat.zero_le _, Nat.zero_le _⟩ (fun _ => rfl) (fun _ => rfl) (fun _ => rfl) (fun _ H locs hr_58 hP hD hS => ?_)
          have hP : va_P D vwCl [(hp, .inr (4, [.ref ht, .int (nI m1), .int fo, .int ss])), (ht, .inl (cI, 35, .inl (upd (upd tr ((m1 * 5) + 0) (nI k0)) ((m1 * 5) + 1) (nI k1))))] H := hP
          have hD : va_D A [(hp, .inr (4, [.ref ht, .int (nI m1), .int fo, .int ss])), (ht, .inl (cI, 35, .inl (upd (upd tr ((m1 * 5) + 0) (nI k0)) ((m1 * 5) + 1) (nI k1))))] := hD
          refine lv_aload_n hx hb dX4_add_61 rfl (lv_at hl 0 rfl) ?_
          refine q_get (ci := 4) (CC := RX4) (T := TX4) (N := 4) (v := .ref ht) hx hb hts hin4 hown hK hP 0 rfl rfl 0 (by decide) (hts (.fieldLink RX4 9 "DearAsMany$People" "traits" "[I") (by decide +kernel)) rfl rfl dX4_add_62 ?_
          refine lv_aload_n hx hb dX4_add_65 rfl (lv_at hl 0 rfl) ?_
          refine q_get (ci := 4) (CC := RX4) (T := TX4) (N := 4) (v := .int (nI m1)) hx hb hts hin4 hown hK hP 0 rfl rfl 1 (by decide) (hts (.fieldLink RX4 15 "DearAsMany$People" "size" "I") (by decide +kernel)) rfl rfl dX4_add_66 ?_
          refine lv_iconst (v := nI 5) hx hb dX4_add_69 (by decide) ?_
          refine q_imul (v := nI (m1 * 5)) hx hb dX4_add_70 (q_mul _ _) ?_
          refine lv_iconst (v := nI 2) hx hb dX4_add_71 (by decide) ?_
          refine q_iadd (v := nI ((m1 * 5) + 2)) hx hb dX4_add_72 (nI_add _ _) ?_
          refine lv_iload_n hx hb dX4_add_73 rfl (lv_at hl 3 rfl) ?_
          refine q_nmv (S := Unit) (w1 := fun _ => [(ht, .inl (cI, 35, .inl (upd (upd (upd tr ((m1 * 5) + 0) (nI k0)) ((m1 * 5) + 1) (nI k1)) ((m1 * 5) + 2) (nI k2))))]) (w2 := fun _ => [(hp, .inr (4, [.ref ht, .int (nI m1), .int fo, .int ss])), (ht, .inl (cI, 35, .inl (upd (upd (upd tr ((m1 * 5) + 0) (nI k0)) ((m1 * 5) + 1) (nI k1)) ((m1 * 5) + 2) (nI k2))))]) (As := [.ref ht, .int (nI ((m1 * 5) + 2)), .int (nI k2)]) (rest := []) ⟨hx, hb, hml, hown, hts⟩ (c_X9_put l (D := D) (cI := cI) (cB := cB) (cZ := cZ) (a := ht) (N := 35) (k := (m1 * 5) + 2) (f := upd (upd tr ((m1 * 5) + 0) (nI k0)) ((m1 * 5) + 1) (nI k1)) (x := nI k2) (by omega) (by decide)) ⟨va_cnB 3 hts gX4_add_X9_put_n25 rfl rfl rfl (hK.2.at 13 rfl) (hts (.initialized RX9) (by decide +kernel)) (by decide +kernel) ⟨Nat.le_of_ble_eq_true rfl, Nat.le_of_ble_eq_true rfl⟩, hts (.static yX9_put) (by decide +kernel), trivial⟩ hK hP hD hS hA [1] rfl (by decide) rfl hl.1 rfl (Nat.le_of_ble_eq_true rfl) dX4_add_74 ⟨Nat.zero_le _, Nat.zero_le _⟩ (fun _ => rfl) (fun _ => rfl) (fun _ => rfl) (fun _ H locs hr_74 hP hD hS => ?_)
          have hP : va_P D vwCl [(hp, .inr (4, [.ref ht, .int (nI m1), .int fo, .int ss])), (ht, .inl (cI, 35, .inl (upd (upd (upd tr ((m1 * 5) + 0) (nI k0)) ((m1 * 5) + 1) (nI k1)) ((m1 * 5) + 2) (nI k2))))] H := hP
          have hD : va_D A [(hp, .inr (4, [.ref ht, .int (nI m1), .int fo, .int ss])), (ht, .inl (cI, 35, .inl (upd (upd (upd tr ((m1 * 5) + 0) (nI k0)) ((m1 * 5) + 1) (nI k1)) ((m1 * 5) + 2) (nI k2))))] := hD
          refine lv_aload_n hx hb dX4_add_77 rfl (lv_at hl 0 rfl) ?_
          refine q_get (ci := 4) (CC := RX4) (T := TX4) (N := 4) (v := .ref ht) hx hb hts hin4 hown hK hP 0 rfl rfl 0 (by decide) (hts (.fieldLink RX4 9 "DearAsMany$People" "traits" "[I") (by decide +kernel)) rfl rfl dX4_add_78 ?_
          refine lv_aload_n hx hb dX4_add_81 rfl (lv_at hl 0 rfl) ?_
          refine q_get (ci := 4) (CC := RX4) (T := TX4) (N := 4) (v := .int (nI m1)) hx hb hts hin4 hown hK hP 0 rfl rfl 1 (by decide) (hts (.fieldLink RX4 15 "DearAsMany$People" "size" "I") (by decide +kernel)) rfl rfl dX4_add_82 ?_
          refine lv_iconst (v := nI 5) hx hb dX4_add_85 (by decide) ?_
          refine q_imul (v := nI (m1 * 5)) hx hb dX4_add_86 (q_mul _ _) ?_
          refine lv_iconst (v := nI 3) hx hb dX4_add_87 (by decide) ?_
          refine q_iadd (v := nI ((m1 * 5) + 3)) hx hb dX4_add_88 (nI_add _ _) ?_
          refine lv_iload hx hb dX4_add_89 (lv_at hl 4 rfl) ?_
          refine q_nmv (S := Unit) (w1 := fun _ => [(ht, .inl (cI, 35, .inl (upd (upd (upd (upd tr ((m1 * 5) + 0) (nI k0)) ((m1 * 5) + 1) (nI k1)) ((m1 * 5) + 2) (nI k2)) ((m1 * 5) + 3) (nI k3))))]) (w2 := fun _ => [(hp, .inr (4, [.ref ht, .int (nI m1), .int fo, .int ss])), (ht, .inl (cI, 35, .inl (upd (upd (upd (upd tr ((m1 * 5) + 0) (nI k0)) ((m1 * 5) + 1) (nI k1)) ((m1 * 5) + 2) (nI k2)) ((m1 * 5) + 3) (nI k3))))]) (As := [.ref ht, .int (nI ((m1 * 5) + 3)), .int (nI k3)]) (rest := []) ⟨hx, hb, hml, hown, hts⟩ (c_X9_put l (D := D) (cI := cI) (cB := cB) (cZ := cZ) (a := ht) (N := 35) (k := (m1 * 5) + 3) (f := upd (upd (upd tr ((m1 * 5) + 0) (nI k0)) ((m1 * 5) + 1) (nI k1)) ((m1 * 5) + 2) (nI k2)) (x := nI k3) (by omega) (by decide)) ⟨va_cnB 3 hts gX4_add_X9_put_n25 rfl rfl rfl (hK.2.at 13 rfl) (hts (.initialized RX9) (by decide +kernel)) (by decide +kernel) ⟨Nat.le_of_ble_eq_true rfl, Nat.le_of_ble_eq_true rfl⟩, hts (.static yX9_put) (by decide +kernel), trivial⟩ hK hP hD hS hA [1] rfl (by decide) rfl hl.1 rfl (Nat.le_of_ble_eq_true rfl) dX4_add_91 ⟨Nat.zero_le _, Nat.zero_le _⟩ (fun _ => rfl) (fun _ => rfl) (fun _ => rfl) (fun _ H locs hr_91 hP hD hS => ?_)
          have hP : va_P D vwCl [(hp, .inr (4, [.ref ht, .int (nI m1), .int fo, .int ss])), (ht, .inl (cI, 35, .inl (upd (upd (upd (upd tr ((m1 * 5) + 0) (nI k0)) ((m1 * 5) + 1) (nI k1)) ((m1 * 5) + 2) (nI k2)) ((m1 * 5) + 3) (nI k3))))] H := hP
          have hD : va_D A [(hp, .inr (4, [.ref ht, .int (nI m1), .int fo, .int ss])), (ht, .inl (cI, 35, .inl (upd (upd (upd (upd tr ((m1 * 5) + 0) (nI k0)) ((m1 * 5) + 1) (nI k1)) ((m1 * 5) + 2) (nI k2)) ((m1 * 5) + 3) (nI k3))))] := hD
          refine lv_aload_n hx hb dX4_add_94 rfl (lv_at hl 0 rfl) ?_
          refine q_get (ci := 4) (CC := RX4) (T := TX4) (N := 4) (v := .ref ht) hx hb hts hin4 hown hK hP 0 rfl rfl 0 (by decide) (hts (.fieldLink RX4 9 "DearAsMany$People" "traits" "[I") (by decide +kernel)) rfl rfl dX4_add_95 ?_
          refine lv_aload_n hx hb dX4_add_98 rfl (lv_at hl 0 rfl) ?_
          refine q_get (ci := 4) (CC := RX4) (T := TX4) (N := 4) (v := .int (nI m1)) hx hb hts hin4 hown hK hP 0 rfl rfl 1 (by decide) (hts (.fieldLink RX4 15 "DearAsMany$People" "size" "I") (by decide +kernel)) rfl rfl dX4_add_99 ?_
          refine lv_iconst (v := nI 5) hx hb dX4_add_102 (by decide) ?_
          refine q_imul (v := nI (m1 * 5)) hx hb dX4_add_103 (q_mul _ _) ?_
          refine lv_iconst (v := nI 4) hx hb dX4_add_104 (by decide) ?_
          refine q_iadd (v := nI ((m1 * 5) + 4)) hx hb dX4_add_105 (nI_add _ _) ?_
          refine lv_iload hx hb dX4_add_106 (lv_at hl 5 rfl) ?_
          refine q_nmv (S := Unit) (w1 := fun _ => [(ht, .inl (cI, 35, .inl (upd (upd (upd (upd (upd tr ((m1 * 5) + 0) (nI k0)) ((m1 * 5) + 1) (nI k1)) ((m1 * 5) + 2) (nI k2)) ((m1 * 5) + 3) (nI k3)) ((m1 * 5) + 4) (nI k4))))]) (w2 := fun _ => [(hp, .inr (4, [.ref ht, .int (nI m1), .int fo, .int ss])), (ht, .inl (cI, 35, .inl (upd (upd (upd (upd (upd tr ((m1 * 5) + 0) (nI k0)) ((m1 * 5) + 1) (nI k1)) ((m1 * 5) + 2) (nI k2)) ((m1 * 5) + 3) (nI k3)) ((m1 * 5) + 4) (nI k4))))]) (As := [.ref ht, .int (nI ((m1 * 5) + 4)), .int (nI k4)]) (rest := []) ⟨hx, hb, hml, hown, hts⟩ (c_X9_put l (D := D) (cI := cI) (cB := cB) (cZ := cZ) (a := ht) (N := 35) (k := (m1 * 5) + 4) (f := upd (upd (upd (upd tr ((m1 * 5) + 0) (nI k0)) ((m1 * 5) + 1) (nI k1)) ((m1 * 5) + 2) (nI k2)) ((m1 * 5) + 3) (nI k3)) (x := nI k4) (by omega) (by decide)) ⟨va_cnB 3 hts gX4_add_X9_put_n25 rfl rfl rfl (hK.2.at 13 rfl) (hts (.initialized RX9) (by decide +kernel)) (by decide +kernel) ⟨Nat.le_of_ble_eq_true rfl, Nat.le_of_ble_eq_true rfl⟩, hts (.static yX9_put) (by decide +kernel), trivial⟩ hK hP hD hS hA [1] rfl (by decide) rfl hl.1 rfl (Nat.le_of_ble_eq_true rfl) dX4_add_108 ⟨Nat.zero_le _, Nat.zero_le _⟩ (fun _ => rfl) (fun _ => rfl) (fun _ => rfl) (fun _ H locs hr_108 hP hD hS => ?_)
          have hP : va_P D vwCl [(hp, .inr (4, [.ref ht, .int (nI m1), .int fo, .int ss])), (ht, .inl (cI, 35, .inl (upd (upd (upd (upd (upd tr ((m1 * 5) + 0) (nI k0)) ((m1 * 5) + 1) (nI k1)) ((m1 * 5) + 2) (nI k2)) ((m1 * 5) + 3) (nI k3)) ((m1 * 5) + 4) (nI k4))))] H := hP
          have hD : va_D A [(hp, .inr (4, [.ref ht, .int (nI m1), .int fo, .int ss])), (ht, .inl (cI, 35, .inl (upd (upd (upd (upd (upd tr ((m1 * 5) + 0) (nI k0)) ((m1 * 5) + 1) (nI k1)) ((m1 * 5) + 2) (nI k2)) ((m1 * 5) + 3) (nI k3)) ((m1 * 5) + 4) (nI k4))))] := hD
          refine lv_aload_n hx hb dX4_add_111 rfl (lv_at hl 0 rfl) ?_
          refine lv_dup hx hb dX4_add_112 rfl ?_
          refine q_get (ci := 4) (CC := RX4) (T := TX4) (N := 4) (v := .int (nI m1)) hx hb hts hin4 hown hK hP 0 rfl rfl 1 (by decide) (hts (.fieldLink RX4 15 "DearAsMany$People" "size" "I") (by decide +kernel)) rfl rfl dX4_add_113 ?_
          refine lv_iconst (v := nI 1) hx hb dX4_add_116 (by decide) ?_
          refine q_iadd (v := nI (m1 + 1)) hx hb dX4_add_117 (nI_add _ _) ?_
          refine q_put (ci := 4) (CC := RX4) (T := TX4) (N := 4) (w2 := [(hp, .inr (4, [.ref ht, .int (nI (m1 + 1)), .int fo, .int ss])), (ht, .inl (cI, 35, .inl (upd (upd (upd (upd (upd tr ((m1 * 5) + 0) (nI k0)) ((m1 * 5) + 1) (nI k1)) ((m1 * 5) + 2) (nI k2)) ((m1 * 5) + 3) (nI k3)) ((m1 * 5) + 4) (nI k4))))]) hx hb hts hin4 tyX4 tyX4_ok nmX4 hown hK hP hD hS 0 rfl rfl 1 (by decide) (hts (.fieldLink RX4 15 "DearAsMany$People" "size" "I") (by decide +kernel)) rfl rfl rfl (Nat.le_of_ble_eq_true rfl) dX4_add_118 rfl (fun H locs hP hD hS => ?_)
          refine lv_iconst (v := nI 1) hx hb dX4_add_121 (by decide) ?_
          exact q_mret (S := (Nat × (Nat → Int32))) (v := nI 1) (w1 := fun u => [(hp, .inr (4, [.ref ht, .int (nI u.1), .int fo, .int ss])), (ht, .inl (cI, 35, .inl u.2))]) (m1 + 1, (upd (upd (upd (upd (upd tr ((m1 * 5) + 0) (nI k0)) ((m1 * 5) + 1) (nI k1)) ((m1 * 5) + 2) (nI k2)) ((m1 * 5) + 3) (nI k3)) ((m1 * 5) + 4) (nI k4))) hx hb hr hlocks (q_nar1) hP hS dX4_add_122 (by exact ⟨by rw [show q_adOk m1 k0 k2 k3 = true from decide_eq_true (by omega)]; rfl, fun _ => ⟨rfl, fun R hR => q_TrUp hR k0 k1 k2 k3 k4⟩⟩)
        · refine lv_iconst (v := nI 0) hx hb dX4_add_27 (by decide) ?_
          exact q_mret (S := (Nat × (Nat → Int32))) (v := nI 0) (w1 := fun u => [(hp, .inr (4, [.ref ht, .int (nI u.1), .int fo, .int ss])), (ht, .inl (cI, 35, .inl u.2))]) (m1, tr) hx hb hr hlocks (q_nar0) hP hS dX4_add_28 (by exact ⟨by rw [show q_adOk m1 k0 k2 k3 = false from decide_eq_false (by omega)]; rfl, fun h => by rw [show q_adOk m1 k0 k2 k3 = false from decide_eq_false (by omega)] at h; cases h⟩)

set_option maxHeartbeats 4000000 in
set_option maxRecDepth 100000 in
theorem c_X4_giveOne (l : Launch) {D : va_G} {cI cB cZ : ClassId} {hp : Nat} {ht : Nat} {v : Nat} {m1 : Nat} {fo : Nat} {ss : Int32} {zz : Nat} (hv : v < 2147483648) (hm1 : m1 ≤ 7) : Met l yX4_giveOne wsX4_giveOne ({ frames := 1, cells := 0, slots := 0, locals := 20 } : Room) (va_Pc [.ref hp, .int (nI v)] (q_M D (q_tys cI cB cZ) [(hp, .inr (4, [.ref ht, .int (nI m1), .int (nI fo), .int ss]))] zz)) (va_Qi (S := Nat) (fun r u => r = bI (decide (v < m1)) ∧ (v < m1 → u = fo ||| 2 ^ v)) (fun u t => va_P D vwCl ((fun u => [(hp, .inr (4, [.ref ht, .int (nI m1), .int (nI u), .int ss]))]) u) t.heap) (va_A [(hp, .inr (4, [.ref ht, .int (nI m1), .int (nI fo), .int ss]))] zz)) 0 0 (va_A [(hp, .inr (4, [.ref ht, .int (nI m1), .int (nI fo), .int ss]))] zz) := by
  refine Met.ofW (cc := cX4_giveOne) (maxL := 2) (ret := (some .boolean)) (by decide) rfl ?_
  intro p e s m args below meth c s₁ B hml hv
  obtain ⟨rfl, hsz, hP, hK, hD0⟩ := hv
  have hx := B.exec
  have hb := B.bytes
  have hr := B.returns
  have hts := atoms_spec (ws := wsX4_giveOne) B.pre
  have hown : s.vm.findClass RX4 = some m.cls := findClass_of_methodNamed B.named
  have hlocks := B.notSynchronized
  have hin4 : ∀ w ∈ u_ws RX4 TX4 4, w ∈ wsX4_giveOne := by decide +kernel
  subst hsz
  have hD := hD0.self (sz := s.heap.size)
  generalize hAe : va_A [(hp, .inr (4, [.ref ht, .int (nI m1), .int (nI fo), .int ss]))] s.heap.size = A at hD ⊢
  have hA : ∀ q : Nat, s.heap.size ≤ q → A q := fun q h => by rw [← hAe]; exact Or.inr h
  have hS : va_S A s.heap s.heap [] := va_S.rf
  have hP : va_P D vwCl [(hp, .inr (4, [.ref ht, .int (nI m1), .int (nI fo), .int ss]))] s.heap := hP
  have hl := lv_entry ([.ref hp, .int (nI v)]) (n := 2) (Nat.le_of_ble_eq_true rfl)
  rw [lg_entry_eq]
  generalize (lg_sl ([.ref hp, .int (nI v)]) ++ List.replicate (2 - (lg_sl ([.ref hp, .int (nI v)])).length) Slot.unset).toArray = ls at hl ⊢
  have hl : lv_has ls 2 [(0, .ref hp), (1, .int (nI v))] := hl
  refine lv_iload_n hx hb dX4_giveOne_0 rfl (lv_at hl 1 rfl) ?_
  refine lv_aload_n hx hb dX4_giveOne_1 rfl (lv_at hl 0 rfl) ?_
  refine q_get (ci := 4) (CC := RX4) (T := TX4) (N := 4) (v := .int (nI m1)) hx hb hts hin4 hown hK hP 0 rfl rfl 1 (by decide) (hts (.fieldLink RX4 15 "DearAsMany$People" "size" "I") (by decide +kernel)) rfl rfl dX4_giveOne_2 ?_
  refine q_nlt (tgt := 10) hx hb dX4_giveOne_5 (by decide) (by omega) (by omega) (fun c_5 => ?_) (fun c_5 => ?_)
  · refine lv_aload_n hx hb dX4_giveOne_10 rfl (lv_at hl 0 rfl) ?_
    refine lv_dup hx hb dX4_giveOne_11 rfl ?_
    refine q_get (ci := 4) (CC := RX4) (T := TX4) (N := 4) (v := .int (nI fo)) hx hb hts hin4 hown hK hP 0 rfl rfl 2 (by decide) (hts (.fieldLink RX4 19 "DearAsMany$People" "firstOwners" "I") (by decide +kernel)) rfl rfl dX4_giveOne_12 ?_
    refine lv_iload_n hx hb dX4_giveOne_15 rfl (lv_at hl 1 rfl) ?_
    refine q_ni (As := [.int (nI v)]) (rest := [.int (nI fo), .ref hp]) ⟨hx, hb, hml, hown, hts⟩ (c_X9_bit l (D := D) (cI := cI) (cB := cB) (cZ := cZ) (i := v) (by omega)) ⟨va_cnB 1 hts gX4_giveOne_X9_bit_n29 rfl rfl rfl (hK.2.at 14 rfl) (hts (.initialized RX9) (by decide +kernel)) (by decide +kernel) ⟨Nat.le_of_ble_eq_true rfl, Nat.le_of_ble_eq_true rfl⟩, hts (.static yX9_bit) (by decide +kernel), trivial⟩ hK hP [] rfl rfl hl.1 rfl (Nat.le_of_ble_eq_true rfl) dX4_giveOne_16 ⟨Nat.zero_le _, Nat.zero_le _⟩ (fun r_16 hr_16 => ?_)
    have hr_16 : nI (2 ^ v) = r_16 := (show r_16 = nI (2 ^ v) from hr_16).symm
    subst hr_16
    refine q_ior (v := nI (fo ||| (2 ^ v))) hx hb dX4_giveOne_19 (q_or _ _) ?_
    refine q_put (ci := 4) (CC := RX4) (T := TX4) (N := 4) (w2 := [(hp, .inr (4, [.ref ht, .int (nI m1), .int (nI (fo ||| (2 ^ v))), .int ss]))]) hx hb hts hin4 tyX4 tyX4_ok nmX4 hown hK hP hD hS 0 rfl rfl 2 (by decide) (hts (.fieldLink RX4 19 "DearAsMany$People" "firstOwners" "I") (by decide +kernel)) rfl rfl rfl (Nat.le_of_ble_eq_true rfl) dX4_giveOne_20 rfl (fun H locs hP hD hS => ?_)
    refine lv_iconst (v := nI 1) hx hb dX4_giveOne_23 (by decide) ?_
    exact q_mret (S := Nat) (v := nI 1) (w1 := fun u => [(hp, .inr (4, [.ref ht, .int (nI m1), .int (nI u), .int ss]))]) (fo ||| 2 ^ v) hx hb hr hlocks (q_nar1) hP hS dX4_giveOne_24 (by exact ⟨by rw [decide_eq_true c_5]; rfl, fun _ => rfl⟩)
  · refine lv_iconst (v := nI 0) hx hb dX4_giveOne_8 (by decide) ?_
    exact q_mret (S := Nat) (v := nI 0) (w1 := fun u => [(hp, .inr (4, [.ref ht, .int (nI m1), .int (nI u), .int ss]))]) fo hx hb hr hlocks (q_nar0) hP hS dX4_giveOne_9 (by exact ⟨by rw [decide_eq_false c_5]; rfl, fun h => absurd h c_5⟩)

set_option maxHeartbeats 4000000 in
set_option maxRecDepth 100000 in
theorem c_X4_setSeason (l : Launch) {D : va_G} {cI cB cZ : ClassId} {hp : Nat} {ht : Nat} {v : Int32} {sz : Int32} {fo : Int32} {ss : Int32} {zz : Nat} : Met l yX4_setSeason wsX4_setSeason ({ frames := 0, cells := 0, slots := 0, locals := 0 } : Room) (va_Pc [.ref hp, .int v] (q_M D (q_tys cI cB cZ) [(hp, .inr (4, [.ref ht, .int sz, .int fo, .int ss]))] zz)) (va_Qi (S := Unit) (fun r _ => r = bI true) (fun u t => va_P D vwCl ((fun _ => [(hp, .inr (4, [.ref ht, .int sz, .int fo, .int v]))]) u) t.heap) (va_A [(hp, .inr (4, [.ref ht, .int sz, .int fo, .int ss]))] zz)) 0 0 (va_A [(hp, .inr (4, [.ref ht, .int sz, .int fo, .int ss]))] zz) := by
  refine Met.ofW (cc := cX4_setSeason) (maxL := 2) (ret := (some .boolean)) (by decide) rfl ?_
  intro p e s m args below meth c s₁ B hml hv
  obtain ⟨rfl, hsz, hP, hK, hD0⟩ := hv
  have hx := B.exec
  have hb := B.bytes
  have hr := B.returns
  have hts := atoms_spec (ws := wsX4_setSeason) B.pre
  have hown : s.vm.findClass RX4 = some m.cls := findClass_of_methodNamed B.named
  have hlocks := B.notSynchronized
  have hin4 : ∀ w ∈ u_ws RX4 TX4 4, w ∈ wsX4_setSeason := by decide +kernel
  subst hsz
  have hD := hD0.self (sz := s.heap.size)
  generalize hAe : va_A [(hp, .inr (4, [.ref ht, .int sz, .int fo, .int ss]))] s.heap.size = A at hD ⊢
  have hA : ∀ q : Nat, s.heap.size ≤ q → A q := fun q h => by rw [← hAe]; exact Or.inr h
  have hS : va_S A s.heap s.heap [] := va_S.rf
  have hP : va_P D vwCl [(hp, .inr (4, [.ref ht, .int sz, .int fo, .int ss]))] s.heap := hP
  have hl := lv_entry ([.ref hp, .int v]) (n := 2) (Nat.le_of_ble_eq_true rfl)
  rw [lg_entry_eq]
  generalize (lg_sl ([.ref hp, .int v]) ++ List.replicate (2 - (lg_sl ([.ref hp, .int v])).length) Slot.unset).toArray = ls at hl ⊢
  have hl : lv_has ls 2 [(0, .ref hp), (1, .int v)] := hl
  refine lv_aload_n hx hb dX4_setSeason_0 rfl (lv_at hl 0 rfl) ?_
  refine lv_iload_n hx hb dX4_setSeason_1 rfl (lv_at hl 1 rfl) ?_
  refine q_put (ci := 4) (CC := RX4) (T := TX4) (N := 4) (w2 := [(hp, .inr (4, [.ref ht, .int sz, .int fo, .int v]))]) hx hb hts hin4 tyX4 tyX4_ok nmX4 hown hK hP hD hS 0 rfl rfl 3 (by decide) (hts (.fieldLink RX4 22 "DearAsMany$People" "season" "I") (by decide +kernel)) rfl rfl rfl (Nat.le_of_ble_eq_true rfl) dX4_setSeason_2 rfl (fun H locs hP hD hS => ?_)
  refine lv_iconst (v := nI 1) hx hb dX4_setSeason_5 (by decide) ?_
  exact q_mret (S := Unit) (v := nI 1) (w1 := fun _ => [(hp, .inr (4, [.ref ht, .int sz, .int fo, .int v]))]) () hx hb hr hlocks (q_nar1) hP hS dX4_setSeason_6 (rfl)

set_option maxHeartbeats 4000000 in
set_option maxRecDepth 100000 in
theorem c_X4_copy (l : Launch) {D : va_G} {cI cB cZ : ClassId} {hp : Nat} {ht : Nat} {tl : Nat} {tt : Nat} {sz : Int32} {fo : Int32} {ss : Int32} {sz2 : Int32} {fo2 : Int32} {ss2 : Int32} {tr : Nat → Int32} {tr2 : Nat → Int32} {zz : Nat} : Met l yX4_copy wsX4_copy ({ frames := 1, cells := 0, slots := 0, locals := 22 } : Room) (va_Pc [.ref hp, .ref tl] (q_M D (q_tys cI cB cZ) [(hp, .inr (4, [.ref ht, .int sz, .int fo, .int ss])), (ht, .inl (cI, 35, .inl tr)), (tl, .inr (4, [.ref tt, .int sz2, .int fo2, .int ss2])), (tt, .inl (cI, 35, .inl tr2))] zz)) (va_Qv (S := (Nat → Int32)) (fun u => ∀ k, k < 35 → u k = tr2 k) (fun u t => va_P D vwCl ((fun u => [(hp, .inr (4, [.ref ht, .int sz2, .int fo2, .int ss2])), (ht, .inl (cI, 35, .inl u)), (tl, .inr (4, [.ref tt, .int sz2, .int fo2, .int ss2])), (tt, .inl (cI, 35, .inl tr2))]) u) t.heap) (va_A [(hp, .inr (4, [.ref ht, .int sz, .int fo, .int ss])), (ht, .inl (cI, 35, .inl tr)), (tl, .inr (4, [.ref tt, .int sz2, .int fo2, .int ss2])), (tt, .inl (cI, 35, .inl tr2))] zz)) 0 0 (va_A [(hp, .inr (4, [.ref ht, .int sz, .int fo, .int ss])), (ht, .inl (cI, 35, .inl tr)), (tl, .inr (4, [.ref tt, .int sz2, .int fo2, .int ss2])), (tt, .inl (cI, 35, .inl tr2))] zz) := by
  refine Met.ofW (cc := cX4_copy) (maxL := 3) (ret := none) (by decide) rfl ?_
  intro p e s m args below meth c s₁ B hml hv
  obtain ⟨rfl, hsz, hP, hK, hD0⟩ := hv
  have hx := B.exec
  have hb := B.bytes
  have hr := B.returns
  have hts := atoms_spec (ws := wsX4_copy) B.pre
  have hown : s.vm.findClass RX4 = some m.cls := findClass_of_methodNamed B.named
  have hlocks := B.notSynchronized
  have hin4 : ∀ w ∈ u_ws RX4 TX4 4, w ∈ wsX4_copy := by decide +kernel
  subst hsz
  have hD := hD0.self (sz := s.heap.size)
  generalize hAe : va_A [(hp, .inr (4, [.ref ht, .int sz, .int fo, .int ss])), (ht, .inl (cI, 35, .inl tr)), (tl, .inr (4, [.ref tt, .int sz2, .int fo2, .int ss2])), (tt, .inl (cI, 35, .inl tr2))] s.heap.size = A at hD ⊢
  have hA : ∀ q : Nat, s.heap.size ≤ q → A q := fun q h => by rw [← hAe]; exact Or.inr h
  have hS : va_S A s.heap s.heap [] := va_S.rf
  have hP : va_P D vwCl [(hp, .inr (4, [.ref ht, .int sz, .int fo, .int ss])), (ht, .inl (cI, 35, .inl tr)), (tl, .inr (4, [.ref tt, .int sz2, .int fo2, .int ss2])), (tt, .inl (cI, 35, .inl tr2))] s.heap := hP
  have hl := lv_entry ([.ref hp, .ref tl]) (n := 3) (Nat.le_of_ble_eq_true rfl)
  rw [lg_entry_eq]
  generalize (lg_sl ([.ref hp, .ref tl]) ++ List.replicate (3 - (lg_sl ([.ref hp, .ref tl])).length) Slot.unset).toArray = ls at hl ⊢
  have hl : lv_has ls 3 [(0, .ref hp), (1, .ref tl)] := hl
  have L2 : ∀ (fuel : Nat) (k : Nat) (g : Nat → Int32) (hk : k ≤ 35) (hg : ∀ j, j < k → g j = tr2 j) (hf : 35 - k < fuel) (H : Heap) (locs : List Loc) (hP : va_P D vwCl [(hp, .inr (4, [.ref ht, .int sz, .int fo, .int ss])), (ht, .inl (cI, 35, .inl g)), (tl, .inr (4, [.ref tt, .int sz2, .int fo2, .int ss2])), (tt, .inl (cI, 35, .inl tr2))] H) (hD : va_D A [(hp, .inr (4, [.ref ht, .int sz, .int fo, .int ss])), (ht, .inl (cI, 35, .inl g)), (tl, .inr (4, [.ref tt, .int sz2, .int fo2, .int ss2])), (tt, .inl (cI, 35, .inl tr2))]) (hS : va_S A s.heap H locs) (ls : Array Slot) (hl : lv_has ls 3 [(0, .ref hp), (1, .ref tl), (2, .int (nI k))]), W p l e (headSpec wsX4_copy ({ frames := 1, cells := 0, slots := 0, locals := 22 } : Room)).room s m ([.ref hp, .ref tl] : List Value).toArray below meth c H locs 0 0 (MQ below (va_Qv (S := (Nat → Int32)) (fun u => ∀ k, k < 35 → u k = tr2 k) (fun u t => va_P D vwCl ((fun u => [(hp, .inr (4, [.ref ht, .int sz2, .int fo2, .int ss2])), (ht, .inl (cI, 35, .inl u)), (tl, .inr (4, [.ref tt, .int sz2, .int fo2, .int ss2])), (tt, .inl (cI, 35, .inl tr2))]) u) t.heap) A) ([.ref hp, .ref tl] : List Value).toArray s 0 0 A) (F0 m 2 ls []) := by
    intro fuel
    induction fuel with
    | zero =>
      intro k g hk hg hf H locs hP hD hS ls hl
      exact absurd hf (Nat.not_lt_zero _)
    | succ fuel ih2 =>
      intro k g hk hg hf H locs hP hD hS ls hl
      refine lv_iload_n hx hb dX4_copy_2 rfl (lv_at hl 2 rfl) ?_
      refine lv_aload_n hx hb dX4_copy_3 rfl (lv_at hl 0 rfl) ?_
      refine q_get (ci := 4) (CC := RX4) (T := TX4) (N := 4) (v := .ref ht) hx hb hts hin4 hown hK hP 0 rfl rfl 0 (by decide) (hts (.fieldLink RX4 9 "DearAsMany$People" "traits" "[I") (by decide +kernel)) rfl rfl dX4_copy_4 ?_
      refine q_alen hx hb hK hP 1 0 rfl rfl dX4_copy_7 ?_
      refine q_nge (tgt := 33) hx hb dX4_copy_8 (by decide) (by omega) (by omega) (fun c_8 => ?_) (fun c_8 => ?_)
      · refine lv_aload_n hx hb dX4_copy_33 rfl (lv_at hl 0 rfl) ?_
        refine lv_aload_n hx hb dX4_copy_34 rfl (lv_at hl 1 rfl) ?_
        refine q_get (ci := 4) (CC := RX4) (T := TX4) (N := 4) (v := .int sz2) hx hb hts hin4 hown hK hP 2 rfl rfl 1 (by decide) (hts (.fieldLink RX4 15 "DearAsMany$People" "size" "I") (by decide +kernel)) rfl rfl dX4_copy_35 ?_
        refine q_put (ci := 4) (CC := RX4) (T := TX4) (N := 4) (w2 := [(hp, .inr (4, [.ref ht, .int sz2, .int fo, .int ss])), (ht, .inl (cI, 35, .inl g)), (tl, .inr (4, [.ref tt, .int sz2, .int fo2, .int ss2])), (tt, .inl (cI, 35, .inl tr2))]) hx hb hts hin4 tyX4 tyX4_ok nmX4 hown hK hP hD hS 0 rfl rfl 1 (by decide) (hts (.fieldLink RX4 15 "DearAsMany$People" "size" "I") (by decide +kernel)) rfl rfl rfl (Nat.le_of_ble_eq_true rfl) dX4_copy_38 rfl (fun H locs hP hD hS => ?_)
        refine lv_aload_n hx hb dX4_copy_41 rfl (lv_at hl 0 rfl) ?_
        refine lv_aload_n hx hb dX4_copy_42 rfl (lv_at hl 1 rfl) ?_
        refine q_get (ci := 4) (CC := RX4) (T := TX4) (N := 4) (v := .int fo2) hx hb hts hin4 hown hK hP 2 rfl rfl 2 (by decide) (hts (.fieldLink RX4 19 "DearAsMany$People" "firstOwners" "I") (by decide +kernel)) rfl rfl dX4_copy_43 ?_
        refine q_put (ci := 4) (CC := RX4) (T := TX4) (N := 4) (w2 := [(hp, .inr (4, [.ref ht, .int sz2, .int fo2, .int ss])), (ht, .inl (cI, 35, .inl g)), (tl, .inr (4, [.ref tt, .int sz2, .int fo2, .int ss2])), (tt, .inl (cI, 35, .inl tr2))]) hx hb hts hin4 tyX4 tyX4_ok nmX4 hown hK hP hD hS 0 rfl rfl 2 (by decide) (hts (.fieldLink RX4 19 "DearAsMany$People" "firstOwners" "I") (by decide +kernel)) rfl rfl rfl (Nat.le_of_ble_eq_true rfl) dX4_copy_46 rfl (fun H locs hP hD hS => ?_)
        refine lv_aload_n hx hb dX4_copy_49 rfl (lv_at hl 0 rfl) ?_
        refine lv_aload_n hx hb dX4_copy_50 rfl (lv_at hl 1 rfl) ?_
        refine q_get (ci := 4) (CC := RX4) (T := TX4) (N := 4) (v := .int ss2) hx hb hts hin4 hown hK hP 2 rfl rfl 3 (by decide) (hts (.fieldLink RX4 22 "DearAsMany$People" "season" "I") (by decide +kernel)) rfl rfl dX4_copy_51 ?_
        refine q_put (ci := 4) (CC := RX4) (T := TX4) (N := 4) (w2 := [(hp, .inr (4, [.ref ht, .int sz2, .int fo2, .int ss2])), (ht, .inl (cI, 35, .inl g)), (tl, .inr (4, [.ref tt, .int sz2, .int fo2, .int ss2])), (tt, .inl (cI, 35, .inl tr2))]) hx hb hts hin4 tyX4 tyX4_ok nmX4 hown hK hP hD hS 0 rfl rfl 3 (by decide) (hts (.fieldLink RX4 22 "DearAsMany$People" "season" "I") (by decide +kernel)) rfl rfl rfl (Nat.le_of_ble_eq_true rfl) dX4_copy_54 rfl (fun H locs hP hD hS => ?_)
        exact q_mretv (S := (Nat → Int32)) (w1 := fun u => [(hp, .inr (4, [.ref ht, .int sz2, .int fo2, .int ss2])), (ht, .inl (cI, 35, .inl u)), (tl, .inr (4, [.ref tt, .int sz2, .int fo2, .int ss2])), (tt, .inl (cI, 35, .inl tr2))]) g hx hb hr hlocks hP hS dX4_copy_57 (by exact fun j hj => hg j (by omega))
      · refine lv_aload_n hx hb dX4_copy_11 rfl (lv_at hl 0 rfl) ?_
        refine q_get (ci := 4) (CC := RX4) (T := TX4) (N := 4) (v := .ref ht) hx hb hts hin4 hown hK hP 0 rfl rfl 0 (by decide) (hts (.fieldLink RX4 9 "DearAsMany$People" "traits" "[I") (by decide +kernel)) rfl rfl dX4_copy_12 ?_
        refine lv_iload_n hx hb dX4_copy_15 rfl (lv_at hl 2 rfl) ?_
        refine lv_aload_n hx hb dX4_copy_16 rfl (lv_at hl 1 rfl) ?_
        refine q_get (ci := 4) (CC := RX4) (T := TX4) (N := 4) (v := .ref tt) hx hb hts hin4 hown hK hP 2 rfl rfl 0 (by decide) (hts (.fieldLink RX4 9 "DearAsMany$People" "traits" "[I") (by decide +kernel)) rfl rfl dX4_copy_17 ?_
        refine lv_iload_n hx hb dX4_copy_20 rfl (lv_at hl 2 rfl) ?_
        refine q_ni (As := [.ref tt, .int (nI k)]) (rest := [.int (nI k), .ref ht]) ⟨hx, hb, hml, hown, hts⟩ (c_X9_at l (D := D) (cI := cI) (cB := cB) (cZ := cZ) (a := tt) (N := 35) (k := k) (f := tr2) (by omega) (by decide)) ⟨va_cnB 2 hts gX4_copy_X9_at_n33 rfl rfl rfl (hK.2.at 15 rfl) (hts (.initialized RX9) (by decide +kernel)) (by decide +kernel) ⟨Nat.le_of_ble_eq_true rfl, Nat.le_of_ble_eq_true rfl⟩, hts (.static yX9_at) (by decide +kernel), trivial⟩ hK hP [3] rfl rfl hl.1 rfl (Nat.le_of_ble_eq_true rfl) dX4_copy_21 ⟨Nat.zero_le _, Nat.zero_le _⟩ (fun r_21 hr_21 => ?_)
        have hr_21 : tr2 k = r_21 := (show r_21 = tr2 k from hr_21).symm
        subst hr_21
        refine q_nmv (S := Unit) (w1 := fun _ => [(ht, .inl (cI, 35, .inl (upd g k (tr2 k))))]) (w2 := fun _ => [(hp, .inr (4, [.ref ht, .int sz, .int fo, .int ss])), (ht, .inl (cI, 35, .inl (upd g k (tr2 k)))), (tl, .inr (4, [.ref tt, .int sz2, .int fo2, .int ss2])), (tt, .inl (cI, 35, .inl tr2))]) (As := [.ref ht, .int (nI k), .int (tr2 k)]) (rest := []) ⟨hx, hb, hml, hown, hts⟩ (c_X9_put l (D := D) (cI := cI) (cB := cB) (cZ := cZ) (a := ht) (N := 35) (k := k) (f := g) (x := tr2 k) (by omega) (by decide)) ⟨va_cnB 3 hts gX4_copy_X9_put_n25 rfl rfl rfl (hK.2.at 13 rfl) (hts (.initialized RX9) (by decide +kernel)) (by decide +kernel) ⟨Nat.le_of_ble_eq_true rfl, Nat.le_of_ble_eq_true rfl⟩, hts (.static yX9_put) (by decide +kernel), trivial⟩ hK hP hD hS hA [1] rfl (by decide) rfl hl.1 rfl (Nat.le_of_ble_eq_true rfl) dX4_copy_24 ⟨Nat.zero_le _, Nat.zero_le _⟩ (fun _ => rfl) (fun _ => rfl) (fun _ => rfl) (fun _ H locs hr_24 hP hD hS => ?_)
        have hP : va_P D vwCl [(hp, .inr (4, [.ref ht, .int sz, .int fo, .int ss])), (ht, .inl (cI, 35, .inl (upd g k (tr2 k)))), (tl, .inr (4, [.ref tt, .int sz2, .int fo2, .int ss2])), (tt, .inl (cI, 35, .inl tr2))] H := hP
        have hD : va_D A [(hp, .inr (4, [.ref ht, .int sz, .int fo, .int ss])), (ht, .inl (cI, 35, .inl (upd g k (tr2 k)))), (tl, .inr (4, [.ref tt, .int sz2, .int fo2, .int ss2])), (tt, .inl (cI, 35, .inl tr2))] := hD
        refine lv_iinc (v := nI (k + 1)) (lv' := [(2, .int (nI (k + 1))), (0, .ref hp), (1, .ref tl)]) hx hb dX4_copy_27 hl (k := 2) rfl (nI_add _ 1) (by decide) rfl (fun ls hl => ?_)
        refine lv_goto (tgt := 2) hx hb dX4_copy_30 (by decide) ?_
        exact ih2 (k + 1) (upd g k (tr2 k)) (by first | assumption | exact Nat.zero_le _ | omega) (q_upd_lt tr2 hg) (by omega) _ _ hP hD hS ls (lv_sub hl [1, 2, 0] rfl)
  refine lv_iconst (v := nI 0) hx hb dX4_copy_0 (by decide) ?_
  refine lv_istore_n (lv' := [(2, .int (nI 0)), (0, .ref hp), (1, .ref tl)]) hx hb dX4_copy_1 rfl hl (by decide) rfl (fun ls hl => ?_)
  exact L2 _ 0 tr (by first | assumption | exact Nat.zero_le _ | omega) (fun j h => absurd h (Nat.not_lt_zero _)) (Nat.lt_succ_self _) _ _ hP hD hS ls (lv_sub hl [1, 2, 0] rfl)

set_option maxHeartbeats 4000000 in
set_option maxRecDepth 100000 in
theorem c_X2_begin (l : Launch) {D : va_G} {cI cB cZ : ClassId} {hn : Nat} {hq : Nat} {hp : Nat} {ht : Nat} {ow : Int32} {sz : Int32} {fo : Int32} {ss : Int32} {pn : Nat → Int32} {tr : Nat → Int32} {zz : Nat} : Met l yX2_begin wsX2_begin ({ frames := 1, cells := 0, slots := 0, locals := 23 } : Room) (va_Pc [.ref hn, .ref hp] (q_M D (q_tys cI cB cZ) [(hn, .inr (2, [.ref hq, .int ow])), (hq, .inl (cI, 7, .inl pn)), (hp, .inr (4, [.ref ht, .int sz, .int fo, .int ss])), (ht, .inl (cI, 35, .inl tr))] zz)) (va_Qv (S := (Nat → Int32)) (fun u => ∀ i, i < 7 → u i = tr (i * 5 + 4)) (fun u t => va_P D vwCl ((fun u => [(hn, .inr (2, [.ref hq, .int fo])), (hq, .inl (cI, 7, .inl u)), (hp, .inr (4, [.ref ht, .int sz, .int fo, .int ss])), (ht, .inl (cI, 35, .inl tr))]) u) t.heap) (va_A [(hn, .inr (2, [.ref hq, .int ow])), (hq, .inl (cI, 7, .inl pn)), (hp, .inr (4, [.ref ht, .int sz, .int fo, .int ss])), (ht, .inl (cI, 35, .inl tr))] zz)) 0 0 (va_A [(hn, .inr (2, [.ref hq, .int ow])), (hq, .inl (cI, 7, .inl pn)), (hp, .inr (4, [.ref ht, .int sz, .int fo, .int ss])), (ht, .inl (cI, 35, .inl tr))] zz) := by
  refine Met.ofW (cc := cX2_begin) (maxL := 3) (ret := none) (by decide) rfl ?_
  intro p e s m args below meth c s₁ B hml hv
  obtain ⟨rfl, hsz, hP, hK, hD0⟩ := hv
  have hx := B.exec
  have hb := B.bytes
  have hr := B.returns
  have hts := atoms_spec (ws := wsX2_begin) B.pre
  have hown : s.vm.findClass RX2 = some m.cls := findClass_of_methodNamed B.named
  have hlocks := B.notSynchronized
  have hin2 : ∀ w ∈ u_ws RX2 TX2 2, w ∈ wsX2_begin := by decide +kernel
  have hin4 : ∀ w ∈ u_ws RX4 TX4 4, w ∈ wsX2_begin := by decide +kernel
  subst hsz
  have hD := hD0.self (sz := s.heap.size)
  generalize hAe : va_A [(hn, .inr (2, [.ref hq, .int ow])), (hq, .inl (cI, 7, .inl pn)), (hp, .inr (4, [.ref ht, .int sz, .int fo, .int ss])), (ht, .inl (cI, 35, .inl tr))] s.heap.size = A at hD ⊢
  have hA : ∀ q : Nat, s.heap.size ≤ q → A q := fun q h => by rw [← hAe]; exact Or.inr h
  have hS : va_S A s.heap s.heap [] := va_S.rf
  have hP : va_P D vwCl [(hn, .inr (2, [.ref hq, .int ow])), (hq, .inl (cI, 7, .inl pn)), (hp, .inr (4, [.ref ht, .int sz, .int fo, .int ss])), (ht, .inl (cI, 35, .inl tr))] s.heap := hP
  have hl := lv_entry ([.ref hn, .ref hp]) (n := 3) (Nat.le_of_ble_eq_true rfl)
  rw [lg_entry_eq]
  generalize (lg_sl ([.ref hn, .ref hp]) ++ List.replicate (3 - (lg_sl ([.ref hn, .ref hp])).length) Slot.unset).toArray = ls at hl ⊢
  have hl : lv_has ls 3 [(0, .ref hn), (1, .ref hp)] := hl
  have L10 : ∀ (fuel : Nat) (k : Nat) (g : Nat → Int32) (hk : k ≤ 7) (hg : ∀ j, j < k → g j = tr (j * 5 + 4)) (hf : 7 - k < fuel) (H : Heap) (locs : List Loc) (hP : va_P D vwCl [(hn, .inr (2, [.ref hq, .int fo])), (hq, .inl (cI, 7, .inl g)), (hp, .inr (4, [.ref ht, .int sz, .int fo, .int ss])), (ht, .inl (cI, 35, .inl tr))] H) (hD : va_D A [(hn, .inr (2, [.ref hq, .int fo])), (hq, .inl (cI, 7, .inl g)), (hp, .inr (4, [.ref ht, .int sz, .int fo, .int ss])), (ht, .inl (cI, 35, .inl tr))]) (hS : va_S A s.heap H locs) (ls : Array Slot) (hl : lv_has ls 3 [(0, .ref hn), (1, .ref hp), (2, .int (nI k))]), W p l e (headSpec wsX2_begin ({ frames := 1, cells := 0, slots := 0, locals := 23 } : Room)).room s m ([.ref hn, .ref hp] : List Value).toArray below meth c H locs 0 0 (MQ below (va_Qv (S := (Nat → Int32)) (fun u => ∀ i, i < 7 → u i = tr (i * 5 + 4)) (fun u t => va_P D vwCl ((fun u => [(hn, .inr (2, [.ref hq, .int fo])), (hq, .inl (cI, 7, .inl u)), (hp, .inr (4, [.ref ht, .int sz, .int fo, .int ss])), (ht, .inl (cI, 35, .inl tr))]) u) t.heap) A) ([.ref hn, .ref hp] : List Value).toArray s 0 0 A) (F0 m 10 ls []) := by
    intro fuel
    induction fuel with
    | zero =>
      intro k g hk hg hf H locs hP hD hS ls hl
      exact absurd hf (Nat.not_lt_zero _)
    | succ fuel ih10 =>
      intro k g hk hg hf H locs hP hD hS ls hl
      refine lv_iload_n hx hb dX2_begin_10 rfl (lv_at hl 2 rfl) ?_
      refine lv_bipush (v := nI 7) hx hb dX2_begin_11 (by decide) ?_
      refine q_nge (tgt := 36) hx hb dX2_begin_13 (by decide) (by omega) (by omega) (fun c_13 => ?_) (fun c_13 => ?_)
      · exact q_mretv (S := (Nat → Int32)) (w1 := fun u => [(hn, .inr (2, [.ref hq, .int fo])), (hq, .inl (cI, 7, .inl u)), (hp, .inr (4, [.ref ht, .int sz, .int fo, .int ss])), (ht, .inl (cI, 35, .inl tr))]) g hx hb hr hlocks hP hS dX2_begin_36 (by exact fun j hj => hg j (by omega))
      · refine lv_aload_n hx hb dX2_begin_16 rfl (lv_at hl 0 rfl) ?_
        refine q_get (ci := 2) (CC := RX2) (T := TX2) (N := 2) (v := .ref hq) hx hb hts hin2 hown hK hP 0 rfl rfl 0 (by decide) (hts (.fieldLink RX2 9 "DearAsMany$Holding" "pennies" "[I") (by decide +kernel)) rfl rfl dX2_begin_17 ?_
        refine lv_iload_n hx hb dX2_begin_20 rfl (lv_at hl 2 rfl) ?_
        refine lv_aload_n hx hb dX2_begin_21 rfl (lv_at hl 1 rfl) ?_
        refine lv_iload_n hx hb dX2_begin_22 rfl (lv_at hl 2 rfl) ?_
        refine lv_iconst (v := nI 4) hx hb dX2_begin_23 (by decide) ?_
        refine q_vi (As := [.int (nI k), .int (nI 4)]) (rest := [.int (nI k), .ref hq]) ⟨hx, hb, hml, hown, hts⟩ (c_X4_trait l (D := D) (cI := cI) (cB := cB) (cZ := cZ) (hp := hp) (ht := ht) (i := k) (k := 4) (sz := sz) (fo := fo) (ss := ss) (tr := tr) (by omega) (by decide)) (cwV 2 hts gX2_begin_X4_trait rfl rfl rfl (by decide +kernel) ⟨Nat.le_of_ble_eq_true rfl, Nat.le_of_ble_eq_true rfl⟩) hK hP [2, 3] rfl 2 4 rfl rfl rfl rfl hl.1 rfl (Nat.le_of_ble_eq_true rfl) dX2_begin_24 ⟨Nat.zero_le _, Nat.zero_le _⟩ (fun r_24 hr_24 => ?_)
        have hr_24 : tr (k * 5 + 4) = r_24 := (show r_24 = tr (k * 5 + 4) from hr_24).symm
        subst hr_24
        refine q_nmv (S := Unit) (w1 := fun _ => [(hq, .inl (cI, 7, .inl (upd g k (tr (k * 5 + 4)))))]) (w2 := fun _ => [(hn, .inr (2, [.ref hq, .int fo])), (hq, .inl (cI, 7, .inl (upd g k (tr (k * 5 + 4))))), (hp, .inr (4, [.ref ht, .int sz, .int fo, .int ss])), (ht, .inl (cI, 35, .inl tr))]) (As := [.ref hq, .int (nI k), .int (tr (k * 5 + 4))]) (rest := []) ⟨hx, hb, hml, hown, hts⟩ (c_X9_put l (D := D) (cI := cI) (cB := cB) (cZ := cZ) (a := hq) (N := 7) (k := k) (f := g) (x := tr (k * 5 + 4)) (by omega) (by decide)) ⟨va_cnB 3 hts gX2_begin_X9_put_n28 rfl rfl rfl (hK.2.at 4 rfl) (hts (.initialized RX9) (by decide +kernel)) (by decide +kernel) ⟨Nat.le_of_ble_eq_true rfl, Nat.le_of_ble_eq_true rfl⟩, hts (.static yX9_put) (by decide +kernel), trivial⟩ hK hP hD hS hA [1] rfl (by decide) rfl hl.1 rfl (Nat.le_of_ble_eq_true rfl) dX2_begin_27 ⟨Nat.zero_le _, Nat.zero_le _⟩ (fun _ => rfl) (fun _ => rfl) (fun _ => rfl) (fun _ H locs hr_27 hP hD hS => ?_)
        have hP : va_P D vwCl [(hn, .inr (2, [.ref hq, .int fo])), (hq, .inl (cI, 7, .inl (upd g k (tr (k * 5 + 4))))), (hp, .inr (4, [.ref ht, .int sz, .int fo, .int ss])), (ht, .inl (cI, 35, .inl tr))] H := hP
        have hD : va_D A [(hn, .inr (2, [.ref hq, .int fo])), (hq, .inl (cI, 7, .inl (upd g k (tr (k * 5 + 4))))), (hp, .inr (4, [.ref ht, .int sz, .int fo, .int ss])), (ht, .inl (cI, 35, .inl tr))] := hD
        refine lv_iinc (v := nI (k + 1)) (lv' := [(2, .int (nI (k + 1))), (0, .ref hn), (1, .ref hp)]) hx hb dX2_begin_30 hl (k := 2) rfl (nI_add _ 1) (by decide) rfl (fun ls hl => ?_)
        refine lv_goto (tgt := 10) hx hb dX2_begin_33 (by decide) ?_
        exact ih10 (k + 1) (upd g k (tr (k * 5 + 4))) (by first | assumption | exact Nat.zero_le _ | omega) (q_upd_lt (fun j => tr (j * 5 + 4)) hg) (by omega) _ _ hP hD hS ls (lv_sub hl [1, 2, 0] rfl)
  refine lv_aload_n hx hb dX2_begin_0 rfl (lv_at hl 0 rfl) ?_
  refine lv_aload_n hx hb dX2_begin_1 rfl (lv_at hl 1 rfl) ?_
  refine q_get (ci := 4) (CC := RX4) (T := TX4) (N := 4) (v := .int fo) hx hb hts hin4 hown hK hP 2 rfl rfl 2 (by decide) (hts (.fieldLink RX2 19 "DearAsMany$People" "firstOwners" "I") (by decide +kernel)) rfl rfl dX2_begin_2 ?_
  refine q_put (ci := 2) (CC := RX2) (T := TX2) (N := 2) (w2 := [(hn, .inr (2, [.ref hq, .int fo])), (hq, .inl (cI, 7, .inl pn)), (hp, .inr (4, [.ref ht, .int sz, .int fo, .int ss])), (ht, .inl (cI, 35, .inl tr))]) hx hb hts hin2 tyX2 tyX2_ok nmX2 hown hK hP hD hS 0 rfl rfl 1 (by decide) (hts (.fieldLink RX2 15 "DearAsMany$Holding" "owners" "I") (by decide +kernel)) rfl rfl rfl (Nat.le_of_ble_eq_true rfl) dX2_begin_5 rfl (fun H locs hP hD hS => ?_)
  refine lv_iconst (v := nI 0) hx hb dX2_begin_8 (by decide) ?_
  refine lv_istore_n (lv' := [(2, .int (nI 0)), (0, .ref hn), (1, .ref hp)]) hx hb dX2_begin_9 rfl hl (by decide) rfl (fun ls hl => ?_)
  exact L10 _ 0 pn (by first | assumption | exact Nat.zero_le _ | omega) (fun j h => absurd h (Nat.not_lt_zero _)) (Nat.lt_succ_self _) _ _ hP hD hS ls (lv_sub hl [1, 2, 0] rfl)

set_option maxHeartbeats 4000000 in
set_option maxRecDepth 100000 in
theorem c_X2_earn (l : Launch) {D : va_G} {cI cB cZ : ClassId} {hn : Nat} {hq : Nat} {i : Nat} {ow : Int32} {x : Int32} {pn : Nat → Int32} {zz : Nat} (hi : i < 7) : Met l yX2_earn wsX2_earn ({ frames := 1, cells := 0, slots := 0, locals := 22 } : Room) (va_Pc [.ref hn, .int (nI i), .int x] (q_M D (q_tys cI cB cZ) [(hn, .inr (2, [.ref hq, .int ow])), (hq, .inl (cI, 7, .inl pn))] zz)) (va_Qv (S := Unit) (fun _ => True) (fun u t => va_P D vwCl ((fun _ => [(hn, .inr (2, [.ref hq, .int ow])), (hq, .inl (cI, 7, .inl (upd pn i (pn i + x))))]) u) t.heap) (va_A [(hn, .inr (2, [.ref hq, .int ow])), (hq, .inl (cI, 7, .inl pn))] zz)) 0 0 (va_A [(hn, .inr (2, [.ref hq, .int ow])), (hq, .inl (cI, 7, .inl pn))] zz) := by
  refine Met.ofW (cc := cX2_earn) (maxL := 3) (ret := none) (by decide) rfl ?_
  intro p e s m args below meth c s₁ B hml hv
  obtain ⟨rfl, hsz, hP, hK, hD0⟩ := hv
  have hx := B.exec
  have hb := B.bytes
  have hr := B.returns
  have hts := atoms_spec (ws := wsX2_earn) B.pre
  have hown : s.vm.findClass RX2 = some m.cls := findClass_of_methodNamed B.named
  have hlocks := B.notSynchronized
  have hin2 : ∀ w ∈ u_ws RX2 TX2 2, w ∈ wsX2_earn := by decide +kernel
  subst hsz
  have hD := hD0.self (sz := s.heap.size)
  generalize hAe : va_A [(hn, .inr (2, [.ref hq, .int ow])), (hq, .inl (cI, 7, .inl pn))] s.heap.size = A at hD ⊢
  have hA : ∀ q : Nat, s.heap.size ≤ q → A q := fun q h => by rw [← hAe]; exact Or.inr h
  have hS : va_S A s.heap s.heap [] := va_S.rf
  have hP : va_P D vwCl [(hn, .inr (2, [.ref hq, .int ow])), (hq, .inl (cI, 7, .inl pn))] s.heap := hP
  have hl := lv_entry ([.ref hn, .int (nI i), .int x]) (n := 3) (Nat.le_of_ble_eq_true rfl)
  rw [lg_entry_eq]
  generalize (lg_sl ([.ref hn, .int (nI i), .int x]) ++ List.replicate (3 - (lg_sl ([.ref hn, .int (nI i), .int x])).length) Slot.unset).toArray = ls at hl ⊢
  have hl : lv_has ls 3 [(0, .ref hn), (1, .int (nI i)), (2, .int x)] := hl
  refine lv_aload_n hx hb dX2_earn_0 rfl (lv_at hl 0 rfl) ?_
  refine q_get (ci := 2) (CC := RX2) (T := TX2) (N := 2) (v := .ref hq) hx hb hts hin2 hown hK hP 0 rfl rfl 0 (by decide) (hts (.fieldLink RX2 9 "DearAsMany$Holding" "pennies" "[I") (by decide +kernel)) rfl rfl dX2_earn_1 ?_
  refine lv_iload_n hx hb dX2_earn_4 rfl (lv_at hl 1 rfl) ?_
  refine lv_aload_n hx hb dX2_earn_5 rfl (lv_at hl 0 rfl) ?_
  refine q_get (ci := 2) (CC := RX2) (T := TX2) (N := 2) (v := .ref hq) hx hb hts hin2 hown hK hP 0 rfl rfl 0 (by decide) (hts (.fieldLink RX2 9 "DearAsMany$Holding" "pennies" "[I") (by decide +kernel)) rfl rfl dX2_earn_6 ?_
  refine lv_iload_n hx hb dX2_earn_9 rfl (lv_at hl 1 rfl) ?_
  refine q_ni (As := [.ref hq, .int (nI i)]) (rest := [.int (nI i), .ref hq]) ⟨hx, hb, hml, hown, hts⟩ (c_X9_at l (D := D) (cI := cI) (cB := cB) (cZ := cZ) (a := hq) (N := 7) (k := i) (f := pn) (hi) (by decide)) ⟨va_cnB 2 hts gX2_earn_X9_at_n36 rfl rfl rfl (hK.2.at 6 rfl) (hts (.initialized RX9) (by decide +kernel)) (by decide +kernel) ⟨Nat.le_of_ble_eq_true rfl, Nat.le_of_ble_eq_true rfl⟩, hts (.static yX9_at) (by decide +kernel), trivial⟩ hK hP [1] rfl rfl hl.1 rfl (Nat.le_of_ble_eq_true rfl) dX2_earn_10 ⟨Nat.zero_le _, Nat.zero_le _⟩ (fun r_10 hr_10 => ?_)
  have hr_10 : pn i = r_10 := (show r_10 = pn i from hr_10).symm
  subst hr_10
  refine lv_iload_n hx hb dX2_earn_13 rfl (lv_at hl 2 rfl) ?_
  refine q_iadd (v := (pn i) + x) hx hb dX2_earn_14 (rfl) ?_
  refine q_nmv (S := Unit) (w1 := fun _ => [(hq, .inl (cI, 7, .inl (upd pn i ((pn i) + x))))]) (w2 := fun _ => [(hn, .inr (2, [.ref hq, .int ow])), (hq, .inl (cI, 7, .inl (upd pn i ((pn i) + x))))]) (As := [.ref hq, .int (nI i), .int ((pn i) + x)]) (rest := []) ⟨hx, hb, hml, hown, hts⟩ (c_X9_put l (D := D) (cI := cI) (cB := cB) (cZ := cZ) (a := hq) (N := 7) (k := i) (f := pn) (x := (pn i) + x) (hi) (by decide)) ⟨va_cnB 3 hts gX2_earn_X9_put_n28 rfl rfl rfl (hK.2.at 4 rfl) (hts (.initialized RX9) (by decide +kernel)) (by decide +kernel) ⟨Nat.le_of_ble_eq_true rfl, Nat.le_of_ble_eq_true rfl⟩, hts (.static yX9_put) (by decide +kernel), trivial⟩ hK hP hD hS hA [1] rfl (by decide) rfl hl.1 rfl (Nat.le_of_ble_eq_true rfl) dX2_earn_15 ⟨Nat.zero_le _, Nat.zero_le _⟩ (fun _ => rfl) (fun _ => rfl) (fun _ => rfl) (fun _ H locs hr_15 hP hD hS => ?_)
  have hP : va_P D vwCl [(hn, .inr (2, [.ref hq, .int ow])), (hq, .inl (cI, 7, .inl (upd pn i ((pn i) + x))))] H := hP
  have hD : va_D A [(hn, .inr (2, [.ref hq, .int ow])), (hq, .inl (cI, 7, .inl (upd pn i ((pn i) + x))))] := hD
  exact q_mretv (S := Unit) (w1 := fun _ => [(hn, .inr (2, [.ref hq, .int ow])), (hq, .inl (cI, 7, .inl (upd pn i (pn i + x))))]) () hx hb hr hlocks hP hS dX2_earn_18 (trivial)

set_option maxHeartbeats 4000000 in
set_option maxRecDepth 100000 in
theorem c_X5_push (l : Launch) {D : va_G} {cI cB cZ : ClassId} {un : Nat} {ur : Nat} {hn : Nat} {hq : Nat} {mo : Nat} {RL : Nat} {u0 : Nat} {pn : Nat → Int32} {rw1 : Nat → Int32} {ow : Int32} {zz : Nat} (hRL : RL = mo * 8) (hmo : mo ≤ 8) (hu0 : u0 < mo) : Met l yX5_push wsX5_push ({ frames := 2, cells := 0, slots := 0, locals := 42 } : Room) (va_Pc [.ref un, .ref hn] (q_M D (q_tys cI cB cZ) [(un, .inr (5, [.int (nI mo), .ref ur, .int (nI u0)])), (ur, .inl (cI, RL, .inl rw1)), (hn, .inr (2, [.ref hq, .int ow])), (hq, .inl (cI, 7, .inl pn))] zz)) (va_Qv (S := (Nat → Int32)) (fun u => (∀ i, i < 7 → u (u0 * 8 + i) = pn i) ∧ u (u0 * 8 + 7) = ow ∧ ∀ j, j < u0 * 8 → u j = rw1 j) (fun u t => va_P D vwCl ((fun u => [(un, .inr (5, [.int (nI mo), .ref ur, .int (nI (u0 + 1))])), (ur, .inl (cI, RL, .inl u)), (hn, .inr (2, [.ref hq, .int ow])), (hq, .inl (cI, 7, .inl pn))]) u) t.heap) (va_A [(un, .inr (5, [.int (nI mo), .ref ur, .int (nI u0)])), (ur, .inl (cI, RL, .inl rw1)), (hn, .inr (2, [.ref hq, .int ow])), (hq, .inl (cI, 7, .inl pn))] zz)) 0 0 (va_A [(un, .inr (5, [.int (nI mo), .ref ur, .int (nI u0)])), (ur, .inl (cI, RL, .inl rw1)), (hn, .inr (2, [.ref hq, .int ow])), (hq, .inl (cI, 7, .inl pn))] zz) := by
  refine Met.ofW (cc := cX5_push) (maxL := 4) (ret := none) (by decide) rfl ?_
  intro p e s m args below meth c s₁ B hml hv
  obtain ⟨rfl, hsz, hP, hK, hD0⟩ := hv
  have hx := B.exec
  have hb := B.bytes
  have hr := B.returns
  have hts := atoms_spec (ws := wsX5_push) B.pre
  have hown : s.vm.findClass RX5 = some m.cls := findClass_of_methodNamed B.named
  have hlocks := B.notSynchronized
  have hin2 : ∀ w ∈ u_ws RX2 TX2 2, w ∈ wsX5_push := by decide +kernel
  have hin5 : ∀ w ∈ u_ws RX5 TX5 3, w ∈ wsX5_push := by decide +kernel
  subst hsz
  have hD := hD0.self (sz := s.heap.size)
  generalize hAe : va_A [(un, .inr (5, [.int (nI mo), .ref ur, .int (nI u0)])), (ur, .inl (cI, RL, .inl rw1)), (hn, .inr (2, [.ref hq, .int ow])), (hq, .inl (cI, 7, .inl pn))] s.heap.size = A at hD ⊢
  have hA : ∀ q : Nat, s.heap.size ≤ q → A q := fun q h => by rw [← hAe]; exact Or.inr h
  have hS : va_S A s.heap s.heap [] := va_S.rf
  have hP : va_P D vwCl [(un, .inr (5, [.int (nI mo), .ref ur, .int (nI u0)])), (ur, .inl (cI, RL, .inl rw1)), (hn, .inr (2, [.ref hq, .int ow])), (hq, .inl (cI, 7, .inl pn))] s.heap := hP
  have hl := lv_entry ([.ref un, .ref hn]) (n := 4) (Nat.le_of_ble_eq_true rfl)
  rw [lg_entry_eq]
  generalize (lg_sl ([.ref un, .ref hn]) ++ List.replicate (4 - (lg_sl ([.ref un, .ref hn])).length) Slot.unset).toArray = ls at hl ⊢
  have hl : lv_has ls 4 [(0, .ref un), (1, .ref hn)] := hl
  have L22 : ∀ (fuel : Nat) (k : Nat) (g : Nat → Int32) (hk : k ≤ 7) (hg1 : ∀ i, i < k → g (u0 * 8 + i) = pn i) (hg2 : ∀ j, j < u0 * 8 → g j = rw1 j) (hf : 7 - k < fuel) (H : Heap) (locs : List Loc) (hP : va_P D vwCl [(un, .inr (5, [.int (nI mo), .ref ur, .int (nI u0)])), (ur, .inl (cI, RL, .inl g)), (hn, .inr (2, [.ref hq, .int ow])), (hq, .inl (cI, 7, .inl pn))] H) (hD : va_D A [(un, .inr (5, [.int (nI mo), .ref ur, .int (nI u0)])), (ur, .inl (cI, RL, .inl g)), (hn, .inr (2, [.ref hq, .int ow])), (hq, .inl (cI, 7, .inl pn))]) (hS : va_S A s.heap H locs) (ls : Array Slot) (hl : lv_has ls 4 [(0, .ref un), (1, .ref hn), (2, .int (nI (u0 * 8))), (3, .int (nI k))]), W p l e (headSpec wsX5_push ({ frames := 2, cells := 0, slots := 0, locals := 42 } : Room)).room s m ([.ref un, .ref hn] : List Value).toArray below meth c H locs 0 0 (MQ below (va_Qv (S := (Nat → Int32)) (fun u => (∀ i, i < 7 → u (u0 * 8 + i) = pn i) ∧ u (u0 * 8 + 7) = ow ∧ ∀ j, j < u0 * 8 → u j = rw1 j) (fun u t => va_P D vwCl ((fun u => [(un, .inr (5, [.int (nI mo), .ref ur, .int (nI (u0 + 1))])), (ur, .inl (cI, RL, .inl u)), (hn, .inr (2, [.ref hq, .int ow])), (hq, .inl (cI, 7, .inl pn))]) u) t.heap) A) ([.ref un, .ref hn] : List Value).toArray s 0 0 A) (F0 m 22 ls []) := by
    intro fuel
    induction fuel with
    | zero =>
      intro k g hk hg1 hg2 hf H locs hP hD hS ls hl
      exact absurd hf (Nat.not_lt_zero _)
    | succ fuel ih22 =>
      intro k g hk hg1 hg2 hf H locs hP hD hS ls hl
      refine lv_iload_n hx hb dX5_push_22 rfl (lv_at hl 3 rfl) ?_
      refine lv_bipush (v := nI 7) hx hb dX5_push_23 (by decide) ?_
      refine q_nge (tgt := 49) hx hb dX5_push_25 (by decide) (by omega) (by omega) (fun c_25 => ?_) (fun c_25 => ?_)
      · refine lv_aload_n hx hb dX5_push_49 rfl (lv_at hl 0 rfl) ?_
        refine q_get (ci := 5) (CC := RX5) (T := TX5) (N := 3) (v := .ref ur) hx hb hts hin5 hown hK hP 0 rfl rfl 1 (by decide) (hts (.fieldLink RX5 18 "DearAsMany$Pile" "rows" "[I") (by decide +kernel)) rfl rfl dX5_push_50 ?_
        refine lv_iload_n hx hb dX5_push_53 rfl (lv_at hl 2 rfl) ?_
        refine lv_bipush (v := nI 7) hx hb dX5_push_54 (by decide) ?_
        refine q_iadd (v := nI ((u0 * 8) + 7)) hx hb dX5_push_56 (nI_add _ _) ?_
        refine lv_aload_n hx hb dX5_push_57 rfl (lv_at hl 1 rfl) ?_
        refine q_get (ci := 2) (CC := RX2) (T := TX2) (N := 2) (v := .int ow) hx hb hts hin2 hown hK hP 2 rfl rfl 1 (by decide) (hts (.fieldLink RX5 32 "DearAsMany$Holding" "owners" "I") (by decide +kernel)) rfl rfl dX5_push_58 ?_
        refine q_nmv (S := Unit) (w1 := fun _ => [(ur, .inl (cI, RL, .inl (upd g ((u0 * 8) + 7) ow)))]) (w2 := fun _ => [(un, .inr (5, [.int (nI mo), .ref ur, .int (nI u0)])), (ur, .inl (cI, RL, .inl (upd g ((u0 * 8) + 7) ow))), (hn, .inr (2, [.ref hq, .int ow])), (hq, .inl (cI, 7, .inl pn))]) (As := [.ref ur, .int (nI ((u0 * 8) + 7)), .int ow]) (rest := []) ⟨hx, hb, hml, hown, hts⟩ (c_X9_put l (D := D) (cI := cI) (cB := cB) (cZ := cZ) (a := ur) (N := RL) (k := (u0 * 8) + 7) (f := g) (x := ow) (by omega) (by omega)) ⟨va_cnB 3 hts gX5_push_X9_put_n28 rfl rfl rfl (hK.2.at 16 rfl) (hts (.initialized RX9) (by decide +kernel)) (by decide +kernel) ⟨Nat.le_of_ble_eq_true rfl, Nat.le_of_ble_eq_true rfl⟩, hts (.static yX9_put) (by decide +kernel), trivial⟩ hK hP hD hS hA [1] rfl (by decide) rfl hl.1 rfl (Nat.le_of_ble_eq_true rfl) dX5_push_61 ⟨Nat.zero_le _, Nat.zero_le _⟩ (fun _ => rfl) (fun _ => rfl) (fun _ => rfl) (fun _ H locs hr_61 hP hD hS => ?_)
        have hP : va_P D vwCl [(un, .inr (5, [.int (nI mo), .ref ur, .int (nI u0)])), (ur, .inl (cI, RL, .inl (upd g ((u0 * 8) + 7) ow))), (hn, .inr (2, [.ref hq, .int ow])), (hq, .inl (cI, 7, .inl pn))] H := hP
        have hD : va_D A [(un, .inr (5, [.int (nI mo), .ref ur, .int (nI u0)])), (ur, .inl (cI, RL, .inl (upd g ((u0 * 8) + 7) ow))), (hn, .inr (2, [.ref hq, .int ow])), (hq, .inl (cI, 7, .inl pn))] := hD
        refine lv_aload_n hx hb dX5_push_64 rfl (lv_at hl 0 rfl) ?_
        refine lv_dup hx hb dX5_push_65 rfl ?_
        refine q_get (ci := 5) (CC := RX5) (T := TX5) (N := 3) (v := .int (nI u0)) hx hb hts hin5 hown hK hP 0 rfl rfl 2 (by decide) (hts (.fieldLink RX5 9 "DearAsMany$Pile" "size" "I") (by decide +kernel)) rfl rfl dX5_push_66 ?_
        refine lv_iconst (v := nI 1) hx hb dX5_push_69 (by decide) ?_
        refine q_iadd (v := nI (u0 + 1)) hx hb dX5_push_70 (nI_add _ _) ?_
        refine q_put (ci := 5) (CC := RX5) (T := TX5) (N := 3) (w2 := [(un, .inr (5, [.int (nI mo), .ref ur, .int (nI (u0 + 1))])), (ur, .inl (cI, RL, .inl (upd g ((u0 * 8) + 7) ow))), (hn, .inr (2, [.ref hq, .int ow])), (hq, .inl (cI, 7, .inl pn))]) hx hb hts hin5 tyX5 tyX5_ok nmX5 hown hK hP hD hS 0 rfl rfl 2 (by decide) (hts (.fieldLink RX5 9 "DearAsMany$Pile" "size" "I") (by decide +kernel)) rfl rfl rfl (Nat.le_of_ble_eq_true rfl) dX5_push_71 rfl (fun H locs hP hD hS => ?_)
        exact q_mretv (S := (Nat → Int32)) (w1 := fun u => [(un, .inr (5, [.int (nI mo), .ref ur, .int (nI (u0 + 1))])), (ur, .inl (cI, RL, .inl u)), (hn, .inr (2, [.ref hq, .int ow])), (hq, .inl (cI, 7, .inl pn))]) (upd g ((u0 * 8) + 7) ow) hx hb hr hlocks hP hS dX5_push_74 (by exact ⟨fun i hi => by unfold upd; rw [if_neg (by omega)]; exact hg1 i (by omega), by unfold upd; rw [if_pos rfl], fun j hj => by unfold upd; rw [if_neg (by omega)]; exact hg2 j hj⟩)
      · refine lv_aload_n hx hb dX5_push_28 rfl (lv_at hl 0 rfl) ?_
        refine q_get (ci := 5) (CC := RX5) (T := TX5) (N := 3) (v := .ref ur) hx hb hts hin5 hown hK hP 0 rfl rfl 1 (by decide) (hts (.fieldLink RX5 18 "DearAsMany$Pile" "rows" "[I") (by decide +kernel)) rfl rfl dX5_push_29 ?_
        refine lv_iload_n hx hb dX5_push_32 rfl (lv_at hl 2 rfl) ?_
        refine lv_iload_n hx hb dX5_push_33 rfl (lv_at hl 3 rfl) ?_
        refine q_iadd (v := nI ((u0 * 8) + k)) hx hb dX5_push_34 (nI_add _ _) ?_
        refine lv_aload_n hx hb dX5_push_35 rfl (lv_at hl 1 rfl) ?_
        refine lv_iload_n hx hb dX5_push_36 rfl (lv_at hl 3 rfl) ?_
        refine q_vi (As := [.int (nI k)]) (rest := [.int (nI ((u0 * 8) + k)), .ref ur]) ⟨hx, hb, hml, hown, hts⟩ (c_X2_penniesOf l (D := D) (cI := cI) (cB := cB) (cZ := cZ) (hn := hn) (hq := hq) (i := k) (ow := ow) (pn := pn) (by omega)) (cwV 1 hts gX5_push_X2_penniesOf rfl rfl rfl (by decide +kernel) ⟨Nat.le_of_ble_eq_true rfl, Nat.le_of_ble_eq_true rfl⟩) hK hP [2, 3] rfl 2 2 rfl rfl rfl rfl hl.1 rfl (Nat.le_of_ble_eq_true rfl) dX5_push_37 ⟨Nat.zero_le _, Nat.zero_le _⟩ (fun r_37 hr_37 => ?_)
        have hr_37 : pn k = r_37 := (show r_37 = pn k from hr_37).symm
        subst hr_37
        refine q_nmv (S := Unit) (w1 := fun _ => [(ur, .inl (cI, RL, .inl (upd g ((u0 * 8) + k) (pn k))))]) (w2 := fun _ => [(un, .inr (5, [.int (nI mo), .ref ur, .int (nI u0)])), (ur, .inl (cI, RL, .inl (upd g ((u0 * 8) + k) (pn k)))), (hn, .inr (2, [.ref hq, .int ow])), (hq, .inl (cI, 7, .inl pn))]) (As := [.ref ur, .int (nI ((u0 * 8) + k)), .int (pn k)]) (rest := []) ⟨hx, hb, hml, hown, hts⟩ (c_X9_put l (D := D) (cI := cI) (cB := cB) (cZ := cZ) (a := ur) (N := RL) (k := (u0 * 8) + k) (f := g) (x := pn k) (by omega) (by omega)) ⟨va_cnB 3 hts gX5_push_X9_put_n28 rfl rfl rfl (hK.2.at 16 rfl) (hts (.initialized RX9) (by decide +kernel)) (by decide +kernel) ⟨Nat.le_of_ble_eq_true rfl, Nat.le_of_ble_eq_true rfl⟩, hts (.static yX9_put) (by decide +kernel), trivial⟩ hK hP hD hS hA [1] rfl (by decide) rfl hl.1 rfl (Nat.le_of_ble_eq_true rfl) dX5_push_40 ⟨Nat.zero_le _, Nat.zero_le _⟩ (fun _ => rfl) (fun _ => rfl) (fun _ => rfl) (fun _ H locs hr_40 hP hD hS => ?_)
        have hP : va_P D vwCl [(un, .inr (5, [.int (nI mo), .ref ur, .int (nI u0)])), (ur, .inl (cI, RL, .inl (upd g ((u0 * 8) + k) (pn k)))), (hn, .inr (2, [.ref hq, .int ow])), (hq, .inl (cI, 7, .inl pn))] H := hP
        have hD : va_D A [(un, .inr (5, [.int (nI mo), .ref ur, .int (nI u0)])), (ur, .inl (cI, RL, .inl (upd g ((u0 * 8) + k) (pn k)))), (hn, .inr (2, [.ref hq, .int ow])), (hq, .inl (cI, 7, .inl pn))] := hD
        refine lv_iinc (v := nI (k + 1)) (lv' := [(3, .int (nI (k + 1))), (0, .ref un), (1, .ref hn), (2, .int (nI (u0 * 8)))]) hx hb dX5_push_43 hl (k := 3) rfl (nI_add _ 1) (by decide) rfl (fun ls hl => ?_)
        refine lv_goto (tgt := 22) hx hb dX5_push_46 (by decide) ?_
        exact ih22 (k + 1) (upd g ((u0 * 8) + k) (pn k)) (by first | assumption | exact Nat.zero_le _ | omega) (q_puS hg1) (fun j hj => by unfold upd; rw [if_neg (by omega)]; exact hg2 j hj) (by omega) _ _ hP hD hS ls (lv_sub hl [1, 2, 3, 0] rfl)
  refine lv_aload_n hx hb dX5_push_0 rfl (lv_at hl 0 rfl) ?_
  refine q_get (ci := 5) (CC := RX5) (T := TX5) (N := 3) (v := .int (nI u0)) hx hb hts hin5 hown hK hP 0 rfl rfl 2 (by decide) (hts (.fieldLink RX5 9 "DearAsMany$Pile" "size" "I") (by decide +kernel)) rfl rfl dX5_push_1 ?_
  refine lv_aload_n hx hb dX5_push_4 rfl (lv_at hl 0 rfl) ?_
  refine q_get (ci := 5) (CC := RX5) (T := TX5) (N := 3) (v := .int (nI mo)) hx hb hts hin5 hown hK hP 0 rfl rfl 0 (by decide) (hts (.fieldLink RX5 15 "DearAsMany$Pile" "most" "I") (by decide +kernel)) rfl rfl dX5_push_5 ?_
  refine q_nlt (tgt := 12) hx hb dX5_push_8 (by decide) (by omega) (by omega) (fun c_8 => ?_) (fun c_8 => ?_)
  · refine lv_aload_n hx hb dX5_push_12 rfl (lv_at hl 0 rfl) ?_
    refine q_get (ci := 5) (CC := RX5) (T := TX5) (N := 3) (v := .int (nI u0)) hx hb hts hin5 hown hK hP 0 rfl rfl 2 (by decide) (hts (.fieldLink RX5 9 "DearAsMany$Pile" "size" "I") (by decide +kernel)) rfl rfl dX5_push_13 ?_
    refine lv_bipush (v := nI 8) hx hb dX5_push_16 (by decide) ?_
    refine q_imul (v := nI (u0 * 8)) hx hb dX5_push_18 (q_mul _ _) ?_
    refine lv_istore_n (lv' := [(2, .int (nI (u0 * 8))), (0, .ref un), (1, .ref hn)]) hx hb dX5_push_19 rfl hl (by decide) rfl (fun ls hl => ?_)
    refine lv_iconst (v := nI 0) hx hb dX5_push_20 (by decide) ?_
    refine lv_istore_n (lv' := [(3, .int (nI 0)), (2, .int (nI (u0 * 8))), (0, .ref un), (1, .ref hn)]) hx hb dX5_push_21 rfl hl (by decide) rfl (fun ls hl => ?_)
    exact L22 _ 0 rw1 (by first | assumption | exact Nat.zero_le _ | omega) (fun i h => absurd h (Nat.not_lt_zero _)) (fun j hj => rfl) (Nat.lt_succ_self _) _ _ hP hD hS ls (lv_sub hl [2, 3, 1, 0] rfl)
  · exfalso; omega

set_option maxHeartbeats 4000000 in
set_option maxRecDepth 100000 in
theorem c_X5_pushOverOldest (l : Launch) {D : va_G} {cI cB cZ : ClassId} {un : Nat} {ur : Nat} {hn : Nat} {hq : Nat} {mo : Nat} {RL : Nat} {u0 : Nat} {pn : Nat → Int32} {rw1 : Nat → Int32} {ow : Int32} {zz : Nat} (hRL : RL = mo * 8) (hmo : mo ≤ 8 ∧ 0 < mo) (hu0 : u0 ≤ mo) : Met l yX5_pushOverOldest wsX5_pushOverOldest ({ frames := 3, cells := 0, slots := 0, locals := 65 } : Room) (va_Pc [.ref un, .ref hn] (q_M D (q_tys cI cB cZ) [(un, .inr (5, [.int (nI mo), .ref ur, .int (nI u0)])), (ur, .inl (cI, RL, .inl rw1)), (hn, .inr (2, [.ref hq, .int ow])), (hq, .inl (cI, 7, .inl pn))] zz)) (va_Qv (S := (Nat → Int32)) (fun u => (∀ i, i < 7 → u (q_pb mo u0 * 8 + i) = pn i) ∧ u (q_pb mo u0 * 8 + 7) = ow ∧ ∀ j, j < q_pb mo u0 * 8 → u j = if u0 < mo then rw1 j else rw1 (j + 8)) (fun u t => va_P D vwCl ((fun u => [(un, .inr (5, [.int (nI mo), .ref ur, .int (nI (q_pb mo u0 + 1))])), (ur, .inl (cI, RL, .inl u)), (hn, .inr (2, [.ref hq, .int ow])), (hq, .inl (cI, 7, .inl pn))]) u) t.heap) (va_A [(un, .inr (5, [.int (nI mo), .ref ur, .int (nI u0)])), (ur, .inl (cI, RL, .inl rw1)), (hn, .inr (2, [.ref hq, .int ow])), (hq, .inl (cI, 7, .inl pn))] zz)) 0 0 (va_A [(un, .inr (5, [.int (nI mo), .ref ur, .int (nI u0)])), (ur, .inl (cI, RL, .inl rw1)), (hn, .inr (2, [.ref hq, .int ow])), (hq, .inl (cI, 7, .inl pn))] zz) := by
  refine Met.ofW (cc := cX5_pushOverOldest) (maxL := 3) (ret := none) (by decide) rfl ?_
  intro p e s m args below meth c s₁ B hml hv
  obtain ⟨rfl, hsz, hP, hK, hD0⟩ := hv
  have hx := B.exec
  have hb := B.bytes
  have hr := B.returns
  have hts := atoms_spec (ws := wsX5_pushOverOldest) B.pre
  have hown : s.vm.findClass RX5 = some m.cls := findClass_of_methodNamed B.named
  have hlocks := B.notSynchronized
  have hin5 : ∀ w ∈ u_ws RX5 TX5 3, w ∈ wsX5_pushOverOldest := by decide +kernel
  subst hsz
  have hD := hD0.self (sz := s.heap.size)
  generalize hAe : va_A [(un, .inr (5, [.int (nI mo), .ref ur, .int (nI u0)])), (ur, .inl (cI, RL, .inl rw1)), (hn, .inr (2, [.ref hq, .int ow])), (hq, .inl (cI, 7, .inl pn))] s.heap.size = A at hD ⊢
  have hA : ∀ q : Nat, s.heap.size ≤ q → A q := fun q h => by rw [← hAe]; exact Or.inr h
  have hS : va_S A s.heap s.heap [] := va_S.rf
  have hP : va_P D vwCl [(un, .inr (5, [.int (nI mo), .ref ur, .int (nI u0)])), (ur, .inl (cI, RL, .inl rw1)), (hn, .inr (2, [.ref hq, .int ow])), (hq, .inl (cI, 7, .inl pn))] s.heap := hP
  have hl := lv_entry ([.ref un, .ref hn]) (n := 3) (Nat.le_of_ble_eq_true rfl)
  rw [lg_entry_eq]
  generalize (lg_sl ([.ref un, .ref hn]) ++ List.replicate (3 - (lg_sl ([.ref un, .ref hn])).length) Slot.unset).toArray = ls at hl ⊢
  have hl : lv_has ls 3 [(0, .ref un), (1, .ref hn)] := hl
  have hmo1 := hmo.1
  have hmo2 := hmo.2
  have L14 : ∀ (fuel : Nat) (q : Nat) (g : Nat → Int32) (hfull : ¬ u0 < mo) (hq8 : 8 ≤ q ∧ q ≤ RL) (hg1 : ∀ j, j + 8 < q → g j = rw1 (j + 8)) (hg2 : ∀ j, q ≤ j + 8 → g j = rw1 j) (hf : RL - q < fuel) (H : Heap) (locs : List Loc) (hP : va_P D vwCl [(un, .inr (5, [.int (nI mo), .ref ur, .int (nI u0)])), (ur, .inl (cI, RL, .inl g)), (hn, .inr (2, [.ref hq, .int ow])), (hq, .inl (cI, 7, .inl pn))] H) (hD : va_D A [(un, .inr (5, [.int (nI mo), .ref ur, .int (nI u0)])), (ur, .inl (cI, RL, .inl g)), (hn, .inr (2, [.ref hq, .int ow])), (hq, .inl (cI, 7, .inl pn))]) (hS : va_S A s.heap H locs) (ls : Array Slot) (hl : lv_has ls 3 [(0, .ref un), (1, .ref hn), (2, .int (nI q))]), W p l e (headSpec wsX5_pushOverOldest ({ frames := 3, cells := 0, slots := 0, locals := 65 } : Room)).room s m ([.ref un, .ref hn] : List Value).toArray below meth c H locs 0 0 (MQ below (va_Qv (S := (Nat → Int32)) (fun u => (∀ i, i < 7 → u (q_pb mo u0 * 8 + i) = pn i) ∧ u (q_pb mo u0 * 8 + 7) = ow ∧ ∀ j, j < q_pb mo u0 * 8 → u j = if u0 < mo then rw1 j else rw1 (j + 8)) (fun u t => va_P D vwCl ((fun u => [(un, .inr (5, [.int (nI mo), .ref ur, .int (nI (q_pb mo u0 + 1))])), (ur, .inl (cI, RL, .inl u)), (hn, .inr (2, [.ref hq, .int ow])), (hq, .inl (cI, 7, .inl pn))]) u) t.heap) A) ([.ref un, .ref hn] : List Value).toArray s 0 0 A) (F0 m 14 ls []) := by
    intro fuel
    induction fuel with
    | zero =>
      intro q g hfull hq8 hg1 hg2 hf H locs hP hD hS ls hl
      exact absurd hf (Nat.not_lt_zero _)
    | succ fuel ih14 =>
      intro q g hfull hq8 hg1 hg2 hf H locs hP hD hS ls hl
      refine lv_iload_n hx hb dX5_pushOverOldest_14 rfl (lv_at hl 2 rfl) ?_
      refine lv_aload_n hx hb dX5_pushOverOldest_15 rfl (lv_at hl 0 rfl) ?_
      refine q_get (ci := 5) (CC := RX5) (T := TX5) (N := 3) (v := .ref ur) hx hb hts hin5 hown hK hP 0 rfl rfl 1 (by decide) (hts (.fieldLink RX5 18 "DearAsMany$Pile" "rows" "[I") (by decide +kernel)) rfl rfl dX5_pushOverOldest_16 ?_
      refine q_alen hx hb hK hP 1 0 rfl rfl dX5_pushOverOldest_19 ?_
      refine q_nge (tgt := 48) hx hb dX5_pushOverOldest_20 (by decide) (by omega) (by omega) (fun c_20 => ?_) (fun c_20 => ?_)
      · refine lv_aload_n hx hb dX5_pushOverOldest_48 rfl (lv_at hl 0 rfl) ?_
        refine lv_aload_n hx hb dX5_pushOverOldest_49 rfl (lv_at hl 0 rfl) ?_
        refine q_get (ci := 5) (CC := RX5) (T := TX5) (N := 3) (v := .int (nI mo)) hx hb hts hin5 hown hK hP 0 rfl rfl 0 (by decide) (hts (.fieldLink RX5 15 "DearAsMany$Pile" "most" "I") (by decide +kernel)) rfl rfl dX5_pushOverOldest_50 ?_
        refine lv_iconst (v := nI 1) hx hb dX5_pushOverOldest_53 (by decide) ?_
        refine q_isub (v := nI (mo - 1)) hx hb dX5_pushOverOldest_54 (q_sub (by omega)) ?_
        refine q_put (ci := 5) (CC := RX5) (T := TX5) (N := 3) (w2 := [(un, .inr (5, [.int (nI mo), .ref ur, .int (nI (mo - 1))])), (ur, .inl (cI, RL, .inl g)), (hn, .inr (2, [.ref hq, .int ow])), (hq, .inl (cI, 7, .inl pn))]) hx hb hts hin5 tyX5 tyX5_ok nmX5 hown hK hP hD hS 0 rfl rfl 2 (by decide) (hts (.fieldLink RX5 9 "DearAsMany$Pile" "size" "I") (by decide +kernel)) rfl rfl rfl (Nat.le_of_ble_eq_true rfl) dX5_pushOverOldest_55 rfl (fun H locs hP hD hS => ?_)
        refine lv_aload_n hx hb dX5_pushOverOldest_58 rfl (lv_at hl 0 rfl) ?_
        refine lv_aload_n hx hb dX5_pushOverOldest_59 rfl (lv_at hl 1 rfl) ?_
        refine q_vmv (S := (Nat → Int32)) (w1 := fun u => [(un, .inr (5, [.int (nI mo), .ref ur, .int (nI ((mo - 1) + 1))])), (ur, .inl (cI, RL, .inl u)), (hn, .inr (2, [.ref hq, .int ow])), (hq, .inl (cI, 7, .inl pn))]) (w2 := fun u => [(un, .inr (5, [.int (nI mo), .ref ur, .int (nI ((mo - 1) + 1))])), (ur, .inl (cI, RL, .inl u)), (hn, .inr (2, [.ref hq, .int ow])), (hq, .inl (cI, 7, .inl pn))]) (As := [.ref hn]) (rest := []) ⟨hx, hb, hml, hown, hts⟩ (c_X5_push l (D := D) (cI := cI) (cB := cB) (cZ := cZ) (un := un) (ur := ur) (hn := hn) (hq := hq) (mo := mo) (RL := RL) (u0 := mo - 1) (pn := pn) (rw1 := g) (ow := ow) (by first | assumption | exact Nat.zero_le _ | omega) (by first | assumption | exact Nat.zero_le _ | omega) (by first | assumption | exact Nat.zero_le _ | omega)) (cwV 1 hts gX5_pushOverOldest_X5_push rfl rfl rfl (by decide +kernel) ⟨Nat.le_of_ble_eq_true rfl, Nat.le_of_ble_eq_true rfl⟩) hK hP hD hS hA [0, 1, 2, 3] rfl (by decide) 0 5 rfl rfl rfl rfl hl.1 rfl (Nat.le_of_ble_eq_true rfl) dX5_pushOverOldest_60 ⟨Nat.zero_le _, Nat.zero_le _⟩ (fun _ => rfl) (fun _ => rfl) (fun _ => rfl) (fun w H locs hr_60 hP hD hS => ?_)
        have hP : va_P D vwCl [(un, .inr (5, [.int (nI mo), .ref ur, .int (nI ((mo - 1) + 1))])), (ur, .inl (cI, RL, .inl w)), (hn, .inr (2, [.ref hq, .int ow])), (hq, .inl (cI, 7, .inl pn))] H := hP
        have hD : va_D A [(un, .inr (5, [.int (nI mo), .ref ur, .int (nI ((mo - 1) + 1))])), (ur, .inl (cI, RL, .inl w)), (hn, .inr (2, [.ref hq, .int ow])), (hq, .inl (cI, 7, .inl pn))] := hD
        try dsimp only at hr_60
        have hP : va_P D vwCl [(un, .inr (5, [.int (nI mo), .ref ur, .int (nI (q_pb mo u0 + 1))])), (ur, .inl (cI, RL, .inl w)), (hn, .inr (2, [.ref hq, .int ow])), (hq, .inl (cI, 7, .inl pn))] H := by rw [← show (nI ((mo - 1) + 1)) = (nI (q_pb mo u0 + 1)) from by rw [q_pb, if_neg hfull]]; exact hP
        have hD : va_D A [(un, .inr (5, [.int (nI mo), .ref ur, .int (nI (q_pb mo u0 + 1))])), (ur, .inl (cI, RL, .inl w)), (hn, .inr (2, [.ref hq, .int ow])), (hq, .inl (cI, 7, .inl pn))] := q_Dadr (by rfl) hD
        exact q_mretv (S := (Nat → Int32)) (w1 := fun u => [(un, .inr (5, [.int (nI mo), .ref ur, .int (nI (q_pb mo u0 + 1))])), (ur, .inl (cI, RL, .inl u)), (hn, .inr (2, [.ref hq, .int ow])), (hq, .inl (cI, 7, .inl pn))]) w hx hb hr hlocks hP hS dX5_pushOverOldest_63 (by exact q_poS2 hfull hRL (by omega) hg1 hr_60)
      · refine lv_aload_n hx hb dX5_pushOverOldest_23 rfl (lv_at hl 0 rfl) ?_
        refine q_get (ci := 5) (CC := RX5) (T := TX5) (N := 3) (v := .ref ur) hx hb hts hin5 hown hK hP 0 rfl rfl 1 (by decide) (hts (.fieldLink RX5 18 "DearAsMany$Pile" "rows" "[I") (by decide +kernel)) rfl rfl dX5_pushOverOldest_24 ?_
        refine lv_iload_n hx hb dX5_pushOverOldest_27 rfl (lv_at hl 2 rfl) ?_
        refine lv_bipush (v := nI 8) hx hb dX5_pushOverOldest_28 (by decide) ?_
        refine q_isub (v := nI (q - 8)) hx hb dX5_pushOverOldest_30 (q_sub (by omega)) ?_
        refine lv_aload_n hx hb dX5_pushOverOldest_31 rfl (lv_at hl 0 rfl) ?_
        refine q_get (ci := 5) (CC := RX5) (T := TX5) (N := 3) (v := .ref ur) hx hb hts hin5 hown hK hP 0 rfl rfl 1 (by decide) (hts (.fieldLink RX5 18 "DearAsMany$Pile" "rows" "[I") (by decide +kernel)) rfl rfl dX5_pushOverOldest_32 ?_
        refine lv_iload_n hx hb dX5_pushOverOldest_35 rfl (lv_at hl 2 rfl) ?_
        refine q_ni (As := [.ref ur, .int (nI q)]) (rest := [.int (nI (q - 8)), .ref ur]) ⟨hx, hb, hml, hown, hts⟩ (c_X9_at l (D := D) (cI := cI) (cB := cB) (cZ := cZ) (a := ur) (N := RL) (k := q) (f := g) (by omega) (by omega)) ⟨va_cnB 2 hts gX5_pushOverOldest_X9_at_n35 rfl rfl rfl (hK.2.at 17 rfl) (hts (.initialized RX9) (by decide +kernel)) (by decide +kernel) ⟨Nat.le_of_ble_eq_true rfl, Nat.le_of_ble_eq_true rfl⟩, hts (.static yX9_at) (by decide +kernel), trivial⟩ hK hP [1] rfl rfl hl.1 rfl (Nat.le_of_ble_eq_true rfl) dX5_pushOverOldest_36 ⟨Nat.zero_le _, Nat.zero_le _⟩ (fun r_36 hr_36 => ?_)
        have hr_36 : g q = r_36 := (show r_36 = g q from hr_36).symm
        subst hr_36
        refine q_nmv (S := Unit) (w1 := fun _ => [(ur, .inl (cI, RL, .inl (upd g (q - 8) (g q))))]) (w2 := fun _ => [(un, .inr (5, [.int (nI mo), .ref ur, .int (nI u0)])), (ur, .inl (cI, RL, .inl (upd g (q - 8) (g q)))), (hn, .inr (2, [.ref hq, .int ow])), (hq, .inl (cI, 7, .inl pn))]) (As := [.ref ur, .int (nI (q - 8)), .int (g q)]) (rest := []) ⟨hx, hb, hml, hown, hts⟩ (c_X9_put l (D := D) (cI := cI) (cB := cB) (cZ := cZ) (a := ur) (N := RL) (k := q - 8) (f := g) (x := g q) (by omega) (by omega)) ⟨va_cnB 3 hts gX5_pushOverOldest_X9_put_n28 rfl rfl rfl (hK.2.at 16 rfl) (hts (.initialized RX9) (by decide +kernel)) (by decide +kernel) ⟨Nat.le_of_ble_eq_true rfl, Nat.le_of_ble_eq_true rfl⟩, hts (.static yX9_put) (by decide +kernel), trivial⟩ hK hP hD hS hA [1] rfl (by decide) rfl hl.1 rfl (Nat.le_of_ble_eq_true rfl) dX5_pushOverOldest_39 ⟨Nat.zero_le _, Nat.zero_le _⟩ (fun _ => rfl) (fun _ => rfl) (fun _ => rfl) (fun _ H locs hr_39 hP hD hS => ?_)
        have hP : va_P D vwCl [(un, .inr (5, [.int (nI mo), .ref ur, .int (nI u0)])), (ur, .inl (cI, RL, .inl (upd g (q - 8) (g q)))), (hn, .inr (2, [.ref hq, .int ow])), (hq, .inl (cI, 7, .inl pn))] H := hP
        have hD : va_D A [(un, .inr (5, [.int (nI mo), .ref ur, .int (nI u0)])), (ur, .inl (cI, RL, .inl (upd g (q - 8) (g q)))), (hn, .inr (2, [.ref hq, .int ow])), (hq, .inl (cI, 7, .inl pn))] := hD
        refine lv_iinc (v := nI (q + 1)) (lv' := [(2, .int (nI (q + 1))), (0, .ref un), (1, .ref hn)]) hx hb dX5_pushOverOldest_42 hl (k := 2) rfl (nI_add _ 1) (by decide) rfl (fun ls hl => ?_)
        refine lv_goto (tgt := 14) hx hb dX5_pushOverOldest_45 (by decide) ?_
        exact ih14 (q + 1) (upd g (q - 8) (g q)) (by first | assumption | exact Nat.zero_le _ | omega) (by omega) (q_shS hq8 hg1 hg2) (fun j hj => by unfold upd; rw [if_neg (by omega)]; exact hg2 j (by omega)) (by omega) _ _ hP hD hS ls (lv_sub hl [1, 2, 0] rfl)
  refine lv_aload_n hx hb dX5_pushOverOldest_0 rfl (lv_at hl 0 rfl) ?_
  refine q_get (ci := 5) (CC := RX5) (T := TX5) (N := 3) (v := .int (nI u0)) hx hb hts hin5 hown hK hP 0 rfl rfl 2 (by decide) (hts (.fieldLink RX5 9 "DearAsMany$Pile" "size" "I") (by decide +kernel)) rfl rfl dX5_pushOverOldest_1 ?_
  refine lv_aload_n hx hb dX5_pushOverOldest_4 rfl (lv_at hl 0 rfl) ?_
  refine q_get (ci := 5) (CC := RX5) (T := TX5) (N := 3) (v := .int (nI mo)) hx hb hts hin5 hown hK hP 0 rfl rfl 0 (by decide) (hts (.fieldLink RX5 15 "DearAsMany$Pile" "most" "I") (by decide +kernel)) rfl rfl dX5_pushOverOldest_5 ?_
  refine q_nlt (tgt := 58) hx hb dX5_pushOverOldest_8 (by decide) (by omega) (by omega) (fun c_8 => ?_) (fun c_8 => ?_)
  · refine lv_aload_n hx hb dX5_pushOverOldest_58 rfl (lv_at hl 0 rfl) ?_
    refine lv_aload_n hx hb dX5_pushOverOldest_59 rfl (lv_at hl 1 rfl) ?_
    refine q_vmv (S := (Nat → Int32)) (w1 := fun u => [(un, .inr (5, [.int (nI mo), .ref ur, .int (nI (u0 + 1))])), (ur, .inl (cI, RL, .inl u)), (hn, .inr (2, [.ref hq, .int ow])), (hq, .inl (cI, 7, .inl pn))]) (w2 := fun u => [(un, .inr (5, [.int (nI mo), .ref ur, .int (nI (u0 + 1))])), (ur, .inl (cI, RL, .inl u)), (hn, .inr (2, [.ref hq, .int ow])), (hq, .inl (cI, 7, .inl pn))]) (As := [.ref hn]) (rest := []) ⟨hx, hb, hml, hown, hts⟩ (c_X5_push l (D := D) (cI := cI) (cB := cB) (cZ := cZ) (un := un) (ur := ur) (hn := hn) (hq := hq) (mo := mo) (RL := RL) (u0 := u0) (pn := pn) (rw1 := rw1) (ow := ow) (by first | assumption | exact Nat.zero_le _ | omega) (by first | assumption | exact Nat.zero_le _ | omega) (by first | assumption | exact Nat.zero_le _ | omega)) (cwV 1 hts gX5_pushOverOldest_X5_push rfl rfl rfl (by decide +kernel) ⟨Nat.le_of_ble_eq_true rfl, Nat.le_of_ble_eq_true rfl⟩) hK hP hD hS hA [0, 1, 2, 3] rfl (by decide) 0 5 rfl rfl rfl rfl hl.1 rfl (Nat.le_of_ble_eq_true rfl) dX5_pushOverOldest_60 ⟨Nat.zero_le _, Nat.zero_le _⟩ (fun _ => rfl) (fun _ => rfl) (fun _ => rfl) (fun w H locs hr_60 hP hD hS => ?_)
    have hP : va_P D vwCl [(un, .inr (5, [.int (nI mo), .ref ur, .int (nI (u0 + 1))])), (ur, .inl (cI, RL, .inl w)), (hn, .inr (2, [.ref hq, .int ow])), (hq, .inl (cI, 7, .inl pn))] H := hP
    have hD : va_D A [(un, .inr (5, [.int (nI mo), .ref ur, .int (nI (u0 + 1))])), (ur, .inl (cI, RL, .inl w)), (hn, .inr (2, [.ref hq, .int ow])), (hq, .inl (cI, 7, .inl pn))] := hD
    try dsimp only at hr_60
    have hP : va_P D vwCl [(un, .inr (5, [.int (nI mo), .ref ur, .int (nI (q_pb mo u0 + 1))])), (ur, .inl (cI, RL, .inl w)), (hn, .inr (2, [.ref hq, .int ow])), (hq, .inl (cI, 7, .inl pn))] H := by rw [← show (nI (u0 + 1)) = (nI (q_pb mo u0 + 1)) from by rw [q_pb, if_pos c_8]]; exact hP
    have hD : va_D A [(un, .inr (5, [.int (nI mo), .ref ur, .int (nI (q_pb mo u0 + 1))])), (ur, .inl (cI, RL, .inl w)), (hn, .inr (2, [.ref hq, .int ow])), (hq, .inl (cI, 7, .inl pn))] := q_Dadr (by rfl) hD
    exact q_mretv (S := (Nat → Int32)) (w1 := fun u => [(un, .inr (5, [.int (nI mo), .ref ur, .int (nI (q_pb mo u0 + 1))])), (ur, .inl (cI, RL, .inl u)), (hn, .inr (2, [.ref hq, .int ow])), (hq, .inl (cI, 7, .inl pn))]) w hx hb hr hlocks hP hS dX5_pushOverOldest_63 (by exact q_poS1 c_8 hr_60)
  · refine lv_bipush (v := nI 8) hx hb dX5_pushOverOldest_11 (by decide) ?_
    refine lv_istore_n (lv' := [(2, .int (nI 8)), (0, .ref un), (1, .ref hn)]) hx hb dX5_pushOverOldest_13 rfl hl (by decide) rfl (fun ls hl => ?_)
    exact L14 _ 8 rw1 (by omega) (by omega) (fun j hj => absurd hj (by omega)) (fun j hj => rfl) (Nat.lt_succ_self _) _ _ hP hD hS ls (lv_sub hl [1, 2, 0] rfl)

set_option maxHeartbeats 4000000 in
set_option maxRecDepth 100000 in
theorem c_X5_popInto (l : Launch) {D : va_G} {cI cB cZ : ClassId} {un : Nat} {ur : Nat} {hn : Nat} {hq : Nat} {mo : Nat} {RL : Nat} {u0 : Nat} {pn : Nat → Int32} {rw1 : Nat → Int32} {ow : Int32} {zz : Nat} (hRL : RL = mo * 8) (hmo : mo ≤ 8) (hu0 : u0 ≤ mo) (hu1 : 0 < u0) : Met l yX5_popInto wsX5_popInto ({ frames := 1, cells := 0, slots := 0, locals := 22 } : Room) (va_Pc [.ref un, .ref hn] (q_M D (q_tys cI cB cZ) [(un, .inr (5, [.int (nI mo), .ref ur, .int (nI u0)])), (ur, .inl (cI, RL, .inl rw1)), (hn, .inr (2, [.ref hq, .int ow])), (hq, .inl (cI, 7, .inl pn))] zz)) (va_Qv (S := (Nat → Int32)) (fun u => ∀ i, i < 7 → u i = rw1 ((u0 - 1) * 8 + i)) (fun u t => va_P D vwCl ((fun u => [(un, .inr (5, [.int (nI mo), .ref ur, .int (nI (u0 - 1))])), (ur, .inl (cI, RL, .inl rw1)), (hn, .inr (2, [.ref hq, .int (rw1 ((u0 - 1) * 8 + 7))])), (hq, .inl (cI, 7, .inl u))]) u) t.heap) (va_A [(un, .inr (5, [.int (nI mo), .ref ur, .int (nI u0)])), (ur, .inl (cI, RL, .inl rw1)), (hn, .inr (2, [.ref hq, .int ow])), (hq, .inl (cI, 7, .inl pn))] zz)) 0 0 (va_A [(un, .inr (5, [.int (nI mo), .ref ur, .int (nI u0)])), (ur, .inl (cI, RL, .inl rw1)), (hn, .inr (2, [.ref hq, .int ow])), (hq, .inl (cI, 7, .inl pn))] zz) := by
  refine Met.ofW (cc := cX5_popInto) (maxL := 4) (ret := none) (by decide) rfl ?_
  intro p e s m args below meth c s₁ B hml hv
  obtain ⟨rfl, hsz, hP, hK, hD0⟩ := hv
  have hx := B.exec
  have hb := B.bytes
  have hr := B.returns
  have hts := atoms_spec (ws := wsX5_popInto) B.pre
  have hown : s.vm.findClass RX5 = some m.cls := findClass_of_methodNamed B.named
  have hlocks := B.notSynchronized
  have hin2 : ∀ w ∈ u_ws RX2 TX2 2, w ∈ wsX5_popInto := by decide +kernel
  have hin5 : ∀ w ∈ u_ws RX5 TX5 3, w ∈ wsX5_popInto := by decide +kernel
  subst hsz
  have hD := hD0.self (sz := s.heap.size)
  generalize hAe : va_A [(un, .inr (5, [.int (nI mo), .ref ur, .int (nI u0)])), (ur, .inl (cI, RL, .inl rw1)), (hn, .inr (2, [.ref hq, .int ow])), (hq, .inl (cI, 7, .inl pn))] s.heap.size = A at hD ⊢
  have hA : ∀ q : Nat, s.heap.size ≤ q → A q := fun q h => by rw [← hAe]; exact Or.inr h
  have hS : va_S A s.heap s.heap [] := va_S.rf
  have hP : va_P D vwCl [(un, .inr (5, [.int (nI mo), .ref ur, .int (nI u0)])), (ur, .inl (cI, RL, .inl rw1)), (hn, .inr (2, [.ref hq, .int ow])), (hq, .inl (cI, 7, .inl pn))] s.heap := hP
  have hl := lv_entry ([.ref un, .ref hn]) (n := 4) (Nat.le_of_ble_eq_true rfl)
  rw [lg_entry_eq]
  generalize (lg_sl ([.ref un, .ref hn]) ++ List.replicate (4 - (lg_sl ([.ref un, .ref hn])).length) Slot.unset).toArray = ls at hl ⊢
  have hl : lv_has ls 4 [(0, .ref un), (1, .ref hn)] := hl
  have L28 : ∀ (fuel : Nat) (k : Nat) (g : Nat → Int32) (hk : k ≤ 7) (hg : ∀ i, i < k → g i = rw1 ((u0 - 1) * 8 + i)) (hf : 7 - k < fuel) (H : Heap) (locs : List Loc) (hP : va_P D vwCl [(un, .inr (5, [.int (nI mo), .ref ur, .int (nI (u0 - 1))])), (ur, .inl (cI, RL, .inl rw1)), (hn, .inr (2, [.ref hq, .int ow])), (hq, .inl (cI, 7, .inl g))] H) (hD : va_D A [(un, .inr (5, [.int (nI mo), .ref ur, .int (nI (u0 - 1))])), (ur, .inl (cI, RL, .inl rw1)), (hn, .inr (2, [.ref hq, .int ow])), (hq, .inl (cI, 7, .inl g))]) (hS : va_S A s.heap H locs) (ls : Array Slot) (hl : lv_has ls 4 [(0, .ref un), (1, .ref hn), (2, .int (nI ((u0 - 1) * 8))), (3, .int (nI k))]), W p l e (headSpec wsX5_popInto ({ frames := 1, cells := 0, slots := 0, locals := 22 } : Room)).room s m ([.ref un, .ref hn] : List Value).toArray below meth c H locs 0 0 (MQ below (va_Qv (S := (Nat → Int32)) (fun u => ∀ i, i < 7 → u i = rw1 ((u0 - 1) * 8 + i)) (fun u t => va_P D vwCl ((fun u => [(un, .inr (5, [.int (nI mo), .ref ur, .int (nI (u0 - 1))])), (ur, .inl (cI, RL, .inl rw1)), (hn, .inr (2, [.ref hq, .int (rw1 ((u0 - 1) * 8 + 7))])), (hq, .inl (cI, 7, .inl u))]) u) t.heap) A) ([.ref un, .ref hn] : List Value).toArray s 0 0 A) (F0 m 28 ls []) := by
    intro fuel
    induction fuel with
    | zero =>
      intro k g hk hg hf H locs hP hD hS ls hl
      exact absurd hf (Nat.not_lt_zero _)
    | succ fuel ih28 =>
      intro k g hk hg hf H locs hP hD hS ls hl
      refine lv_iload_n hx hb dX5_popInto_28 rfl (lv_at hl 3 rfl) ?_
      refine lv_bipush (v := nI 7) hx hb dX5_popInto_29 (by decide) ?_
      refine q_nge (tgt := 58) hx hb dX5_popInto_31 (by decide) (by omega) (by omega) (fun c_31 => ?_) (fun c_31 => ?_)
      · refine lv_aload_n hx hb dX5_popInto_58 rfl (lv_at hl 1 rfl) ?_
        refine lv_aload_n hx hb dX5_popInto_59 rfl (lv_at hl 0 rfl) ?_
        refine q_get (ci := 5) (CC := RX5) (T := TX5) (N := 3) (v := .ref ur) hx hb hts hin5 hown hK hP 0 rfl rfl 1 (by decide) (hts (.fieldLink RX5 18 "DearAsMany$Pile" "rows" "[I") (by decide +kernel)) rfl rfl dX5_popInto_60 ?_
        refine lv_iload_n hx hb dX5_popInto_63 rfl (lv_at hl 2 rfl) ?_
        refine lv_bipush (v := nI 7) hx hb dX5_popInto_64 (by decide) ?_
        refine q_iadd (v := nI (((u0 - 1) * 8) + 7)) hx hb dX5_popInto_66 (nI_add _ _) ?_
        refine q_ni (As := [.ref ur, .int (nI (((u0 - 1) * 8) + 7))]) (rest := [.ref hn]) ⟨hx, hb, hml, hown, hts⟩ (c_X9_at l (D := D) (cI := cI) (cB := cB) (cZ := cZ) (a := ur) (N := RL) (k := ((u0 - 1) * 8) + 7) (f := rw1) (by omega) (by omega)) ⟨va_cnB 2 hts gX5_popInto_X9_at_n35 rfl rfl rfl (hK.2.at 17 rfl) (hts (.initialized RX9) (by decide +kernel)) (by decide +kernel) ⟨Nat.le_of_ble_eq_true rfl, Nat.le_of_ble_eq_true rfl⟩, hts (.static yX9_at) (by decide +kernel), trivial⟩ hK hP [1] rfl rfl hl.1 rfl (Nat.le_of_ble_eq_true rfl) dX5_popInto_67 ⟨Nat.zero_le _, Nat.zero_le _⟩ (fun r_67 hr_67 => ?_)
        have hr_67 : rw1 (((u0 - 1) * 8) + 7) = r_67 := (show r_67 = rw1 (((u0 - 1) * 8) + 7) from hr_67).symm
        subst hr_67
        refine q_put (ci := 2) (CC := RX2) (T := TX2) (N := 2) (w2 := [(un, .inr (5, [.int (nI mo), .ref ur, .int (nI (u0 - 1))])), (ur, .inl (cI, RL, .inl rw1)), (hn, .inr (2, [.ref hq, .int (rw1 (((u0 - 1) * 8) + 7))])), (hq, .inl (cI, 7, .inl g))]) hx hb hts hin2 tyX2 tyX2_ok nmX2 hown hK hP hD hS 2 rfl rfl 1 (by decide) (hts (.fieldLink RX5 32 "DearAsMany$Holding" "owners" "I") (by decide +kernel)) rfl rfl rfl (Nat.le_of_ble_eq_true rfl) dX5_popInto_70 rfl (fun H locs hP hD hS => ?_)
        exact q_mretv (S := (Nat → Int32)) (w1 := fun u => [(un, .inr (5, [.int (nI mo), .ref ur, .int (nI (u0 - 1))])), (ur, .inl (cI, RL, .inl rw1)), (hn, .inr (2, [.ref hq, .int (rw1 ((u0 - 1) * 8 + 7))])), (hq, .inl (cI, 7, .inl u))]) g hx hb hr hlocks hP hS dX5_popInto_73 (by exact fun i hi => hg i (by omega))
      · refine lv_aload_n hx hb dX5_popInto_34 rfl (lv_at hl 1 rfl) ?_
        refine q_get (ci := 2) (CC := RX2) (T := TX2) (N := 2) (v := .ref hq) hx hb hts hin2 hown hK hP 2 rfl rfl 0 (by decide) (hts (.fieldLink RX5 43 "DearAsMany$Holding" "pennies" "[I") (by decide +kernel)) rfl rfl dX5_popInto_35 ?_
        refine lv_iload_n hx hb dX5_popInto_38 rfl (lv_at hl 3 rfl) ?_
        refine lv_aload_n hx hb dX5_popInto_39 rfl (lv_at hl 0 rfl) ?_
        refine q_get (ci := 5) (CC := RX5) (T := TX5) (N := 3) (v := .ref ur) hx hb hts hin5 hown hK hP 0 rfl rfl 1 (by decide) (hts (.fieldLink RX5 18 "DearAsMany$Pile" "rows" "[I") (by decide +kernel)) rfl rfl dX5_popInto_40 ?_
        refine lv_iload_n hx hb dX5_popInto_43 rfl (lv_at hl 2 rfl) ?_
        refine lv_iload_n hx hb dX5_popInto_44 rfl (lv_at hl 3 rfl) ?_
        refine q_iadd (v := nI (((u0 - 1) * 8) + k)) hx hb dX5_popInto_45 (nI_add _ _) ?_
        refine q_ni (As := [.ref ur, .int (nI (((u0 - 1) * 8) + k))]) (rest := [.int (nI k), .ref hq]) ⟨hx, hb, hml, hown, hts⟩ (c_X9_at l (D := D) (cI := cI) (cB := cB) (cZ := cZ) (a := ur) (N := RL) (k := ((u0 - 1) * 8) + k) (f := rw1) (by omega) (by omega)) ⟨va_cnB 2 hts gX5_popInto_X9_at_n35 rfl rfl rfl (hK.2.at 17 rfl) (hts (.initialized RX9) (by decide +kernel)) (by decide +kernel) ⟨Nat.le_of_ble_eq_true rfl, Nat.le_of_ble_eq_true rfl⟩, hts (.static yX9_at) (by decide +kernel), trivial⟩ hK hP [1] rfl rfl hl.1 rfl (Nat.le_of_ble_eq_true rfl) dX5_popInto_46 ⟨Nat.zero_le _, Nat.zero_le _⟩ (fun r_46 hr_46 => ?_)
        have hr_46 : rw1 (((u0 - 1) * 8) + k) = r_46 := (show r_46 = rw1 (((u0 - 1) * 8) + k) from hr_46).symm
        subst hr_46
        refine q_nmv (S := Unit) (w1 := fun _ => [(hq, .inl (cI, 7, .inl (upd g k (rw1 (((u0 - 1) * 8) + k)))))]) (w2 := fun _ => [(un, .inr (5, [.int (nI mo), .ref ur, .int (nI (u0 - 1))])), (ur, .inl (cI, RL, .inl rw1)), (hn, .inr (2, [.ref hq, .int ow])), (hq, .inl (cI, 7, .inl (upd g k (rw1 (((u0 - 1) * 8) + k)))))]) (As := [.ref hq, .int (nI k), .int (rw1 (((u0 - 1) * 8) + k))]) (rest := []) ⟨hx, hb, hml, hown, hts⟩ (c_X9_put l (D := D) (cI := cI) (cB := cB) (cZ := cZ) (a := hq) (N := 7) (k := k) (f := g) (x := rw1 (((u0 - 1) * 8) + k)) (by omega) (by decide)) ⟨va_cnB 3 hts gX5_popInto_X9_put_n28 rfl rfl rfl (hK.2.at 16 rfl) (hts (.initialized RX9) (by decide +kernel)) (by decide +kernel) ⟨Nat.le_of_ble_eq_true rfl, Nat.le_of_ble_eq_true rfl⟩, hts (.static yX9_put) (by decide +kernel), trivial⟩ hK hP hD hS hA [3] rfl (by decide) rfl hl.1 rfl (Nat.le_of_ble_eq_true rfl) dX5_popInto_49 ⟨Nat.zero_le _, Nat.zero_le _⟩ (fun _ => rfl) (fun _ => rfl) (fun _ => rfl) (fun _ H locs hr_49 hP hD hS => ?_)
        have hP : va_P D vwCl [(un, .inr (5, [.int (nI mo), .ref ur, .int (nI (u0 - 1))])), (ur, .inl (cI, RL, .inl rw1)), (hn, .inr (2, [.ref hq, .int ow])), (hq, .inl (cI, 7, .inl (upd g k (rw1 (((u0 - 1) * 8) + k)))))] H := hP
        have hD : va_D A [(un, .inr (5, [.int (nI mo), .ref ur, .int (nI (u0 - 1))])), (ur, .inl (cI, RL, .inl rw1)), (hn, .inr (2, [.ref hq, .int ow])), (hq, .inl (cI, 7, .inl (upd g k (rw1 (((u0 - 1) * 8) + k)))))] := hD
        refine lv_iinc (v := nI (k + 1)) (lv' := [(3, .int (nI (k + 1))), (0, .ref un), (1, .ref hn), (2, .int (nI ((u0 - 1) * 8)))]) hx hb dX5_popInto_52 hl (k := 3) rfl (nI_add _ 1) (by decide) rfl (fun ls hl => ?_)
        refine lv_goto (tgt := 28) hx hb dX5_popInto_55 (by decide) ?_
        exact ih28 (k + 1) (upd g k (rw1 (((u0 - 1) * 8) + k))) (by first | assumption | exact Nat.zero_le _ | omega) (q_upd_lt (fun i => rw1 ((u0 - 1) * 8 + i)) hg) (by omega) _ _ hP hD hS ls (lv_sub hl [1, 2, 3, 0] rfl)
  refine lv_aload_n hx hb dX5_popInto_0 rfl (lv_at hl 0 rfl) ?_
  refine q_get (ci := 5) (CC := RX5) (T := TX5) (N := 3) (v := .int (nI u0)) hx hb hts hin5 hown hK hP 0 rfl rfl 2 (by decide) (hts (.fieldLink RX5 9 "DearAsMany$Pile" "size" "I") (by decide +kernel)) rfl rfl dX5_popInto_1 ?_
  refine q_zgt (tgt := 8) hx hb dX5_popInto_4 (by decide) (by omega) (fun c_4 => ?_) (fun c_4 => ?_)
  · refine lv_aload_n hx hb dX5_popInto_8 rfl (lv_at hl 0 rfl) ?_
    refine lv_dup hx hb dX5_popInto_9 rfl ?_
    refine q_get (ci := 5) (CC := RX5) (T := TX5) (N := 3) (v := .int (nI u0)) hx hb hts hin5 hown hK hP 0 rfl rfl 2 (by decide) (hts (.fieldLink RX5 9 "DearAsMany$Pile" "size" "I") (by decide +kernel)) rfl rfl dX5_popInto_10 ?_
    refine lv_iconst (v := nI 1) hx hb dX5_popInto_13 (by decide) ?_
    refine q_isub (v := nI (u0 - 1)) hx hb dX5_popInto_14 (q_sub (by omega)) ?_
    refine q_put (ci := 5) (CC := RX5) (T := TX5) (N := 3) (w2 := [(un, .inr (5, [.int (nI mo), .ref ur, .int (nI (u0 - 1))])), (ur, .inl (cI, RL, .inl rw1)), (hn, .inr (2, [.ref hq, .int ow])), (hq, .inl (cI, 7, .inl pn))]) hx hb hts hin5 tyX5 tyX5_ok nmX5 hown hK hP hD hS 0 rfl rfl 2 (by decide) (hts (.fieldLink RX5 9 "DearAsMany$Pile" "size" "I") (by decide +kernel)) rfl rfl rfl (Nat.le_of_ble_eq_true rfl) dX5_popInto_15 rfl (fun H locs hP hD hS => ?_)
    refine lv_aload_n hx hb dX5_popInto_18 rfl (lv_at hl 0 rfl) ?_
    refine q_get (ci := 5) (CC := RX5) (T := TX5) (N := 3) (v := .int (nI (u0 - 1))) hx hb hts hin5 hown hK hP 0 rfl rfl 2 (by decide) (hts (.fieldLink RX5 9 "DearAsMany$Pile" "size" "I") (by decide +kernel)) rfl rfl dX5_popInto_19 ?_
    refine lv_bipush (v := nI 8) hx hb dX5_popInto_22 (by decide) ?_
    refine q_imul (v := nI ((u0 - 1) * 8)) hx hb dX5_popInto_24 (q_mul _ _) ?_
    refine lv_istore_n (lv' := [(2, .int (nI ((u0 - 1) * 8))), (0, .ref un), (1, .ref hn)]) hx hb dX5_popInto_25 rfl hl (by decide) rfl (fun ls hl => ?_)
    refine lv_iconst (v := nI 0) hx hb dX5_popInto_26 (by decide) ?_
    refine lv_istore_n (lv' := [(3, .int (nI 0)), (2, .int (nI ((u0 - 1) * 8))), (0, .ref un), (1, .ref hn)]) hx hb dX5_popInto_27 rfl hl (by decide) rfl (fun ls hl => ?_)
    exact L28 _ 0 pn (by first | assumption | exact Nat.zero_le _ | omega) (fun j h => absurd h (Nat.not_lt_zero _)) (Nat.lt_succ_self _) _ _ hP hD hS ls (lv_sub hl [2, 3, 1, 0] rfl)
  · exfalso; omega
