set_option maxHeartbeats 4000000 in
set_option maxRecDepth 100000 in
theorem c_X6_readItem (l : Launch) {D : va_G} {cI cB cZ : ClassId} {rd : Nat} {rn : Nat} {tx : Nat} {tb : Nat} {tn : Nat} {tby : Nat → Int32} {tf : Nat → Nat} {tl : Nat} {tt : Nat} {pk : Nat} {m1 : Nat} {fo : Nat} {se : Nat} {nu : Nat → Int32} {tr : Nat → Int32} {R : Nat → Nat → Nat} {zz : Nat} (hTx : q_Tx tn tf tby) (hp9 : pk < tn) (hm7 : m1 ≤ 7) (hR : q_Tr R m1 tr) : Met l yX6_readItem wsX6_readItem ({ frames := 3, cells := 0, slots := 0, locals := 68 } : Room) (va_Pc [.ref rd, .ref tx, .ref tl] (q_M D (q_tys cI cB cZ) [(rd, .inr (6, [.ref rn, .int (nI pk)])), (rn, .inl (cI, 5, .inl nu)), (tx, .inr (8, [.ref tb, .int (nI tn)])), (tb, .inl (cB, 300, .inl tby)), (tl, .inr (4, [.ref tt, .int (nI m1), .int (nI fo), .int (nI se)])), (tt, .inl (cI, 35, .inl tr))] zz)) (va_Qi (S := (Int32 × (Nat → Int32) × Nat × Nat × Nat × (Nat → Int32))) (fun r u => r = bI (q_item tn tf m1 R fo se pk).isSome ∧ ∀ y, q_item tn tf m1 R fo se pk = some y → (u.1 = nI y.2.2.2.2 ∧ u.2.2.1 = y.1 ∧ u.2.2.2.1 = y.2.2.1 ∧ u.2.2.2.2.1 = y.2.2.2.1 ∧ q_Tr y.2.1 y.1 u.2.2.2.2.2)) (fun u t => va_P D vwCl ((fun u => [(rd, .inr (6, [.ref rn, .int u.1])), (rn, .inl (cI, 5, .inl u.2.1)), (tx, .inr (8, [.ref tb, .int (nI tn)])), (tb, .inl (cB, 300, .inl tby)), (tl, .inr (4, [.ref tt, .int (nI u.2.2.1), .int (nI u.2.2.2.1), .int (nI u.2.2.2.2.1)])), (tt, .inl (cI, 35, .inl u.2.2.2.2.2))]) u) t.heap) (va_A [(rd, .inr (6, [.ref rn, .int (nI pk)])), (rn, .inl (cI, 5, .inl nu)), (tx, .inr (8, [.ref tb, .int (nI tn)])), (tb, .inl (cB, 300, .inl tby)), (tl, .inr (4, [.ref tt, .int (nI m1), .int (nI fo), .int (nI se)])), (tt, .inl (cI, 35, .inl tr))] zz)) 0 0 (va_A [(rd, .inr (6, [.ref rn, .int (nI pk)])), (rn, .inl (cI, 5, .inl nu)), (tx, .inr (8, [.ref tb, .int (nI tn)])), (tb, .inl (cB, 300, .inl tby)), (tl, .inr (4, [.ref tt, .int (nI m1), .int (nI fo), .int (nI se)])), (tt, .inl (cI, 35, .inl tr))] zz) := by
  refine Met.ofW (cc := cX6_readItem) (maxL := 4) (ret := (some .boolean)) (by decide) rfl ?_
  intro p e s m args below meth c s₁ B hml hv
  obtain ⟨rfl, hsz, hP, hK, hD0⟩ := hv
  have hx := B.exec
  have hb := B.bytes
  have hr := B.returns
  have hts := atoms_spec (ws := wsX6_readItem) B.pre
  have hown : s.vm.findClass RX6 = some m.cls := findClass_of_methodNamed B.named
  have hlocks := B.notSynchronized
  have hin6 : ∀ w ∈ u_ws RX6 TX6 2, w ∈ wsX6_readItem := by decide +kernel
  subst hsz
  have hD := hD0.self (sz := s.heap.size)
  generalize hAe : va_A [(rd, .inr (6, [.ref rn, .int (nI pk)])), (rn, .inl (cI, 5, .inl nu)), (tx, .inr (8, [.ref tb, .int (nI tn)])), (tb, .inl (cB, 300, .inl tby)), (tl, .inr (4, [.ref tt, .int (nI m1), .int (nI fo), .int (nI se)])), (tt, .inl (cI, 35, .inl tr))] s.heap.size = A at hD ⊢
  have hA : ∀ q : Nat, s.heap.size ≤ q → A q := fun q h => by rw [← hAe]; exact Or.inr h
  have hS : va_S A s.heap s.heap [] := va_S.rf
  have hP : va_P D vwCl [(rd, .inr (6, [.ref rn, .int (nI pk)])), (rn, .inl (cI, 5, .inl nu)), (tx, .inr (8, [.ref tb, .int (nI tn)])), (tb, .inl (cB, 300, .inl tby)), (tl, .inr (4, [.ref tt, .int (nI m1), .int (nI fo), .int (nI se)])), (tt, .inl (cI, 35, .inl tr))] s.heap := hP
  have hl := lv_entry ([.ref rd, .ref tx, .ref tl]) (n := 4) (Nat.le_of_ble_eq_true rfl)
  rw [lg_entry_eq]
  generalize (lg_sl ([.ref rd, .ref tx, .ref tl]) ++ List.replicate (4 - (lg_sl ([.ref rd, .ref tx, .ref tl])).length) Slot.unset).toArray = ls at hl ⊢
  have hl : lv_has ls 4 [(0, .ref rd), (1, .ref tx), (2, .ref tl)] := hl
  have htn := hTx.1
  have hp := hp9
  refine lv_aload_n hx hb dX6_readItem_0 rfl (lv_at hl 1 rfl) ?_
  refine lv_aload_n hx hb dX6_readItem_1 rfl (lv_at hl 0 rfl) ?_
  refine q_get (ci := 6) (CC := RX6) (T := TX6) (N := 2) (v := .int (nI pk)) hx hb hts hin6 hown hK hP 0 rfl rfl 1 (by decide) (hts (.fieldLink RX6 15 "DearAsMany$Reader" "place" "I") (by decide +kernel)) rfl rfl dX6_readItem_2 ?_
  refine q_vi (As := [.int (nI pk)]) (rest := []) ⟨hx, hb, hml, hown, hts⟩ (c_X8_byteAt l (D := D) (cI := cI) (cB := cB) (cZ := cZ) (tx := tx) (tb := tb) (tn := tn) (tby := tby) (tf := tf) (p0 := pk) (by first | assumption | exact Nat.zero_le _ | omega) (by omega)) (cwV 1 hts gX6_readItem_X8_byteAt rfl rfl rfl (by decide +kernel) ⟨Nat.le_of_ble_eq_true rfl, Nat.le_of_ble_eq_true rfl⟩) hK hP [2, 3] rfl 2 8 rfl rfl rfl rfl hl.1 rfl (Nat.le_of_ble_eq_true rfl) dX6_readItem_5 ⟨Nat.zero_le _, Nat.zero_le _⟩ (fun r_5 hr_5 => ?_)
  have hr_5 : nI (tf pk) = r_5 := (Eq.trans (show r_5 = q_bat tn tf pk from hr_5) (by rw [q_bat, if_pos hp])).symm
  subst hr_5
  refine lv_istore_n (lv' := [(3, .int (nI (tf pk))), (0, .ref rd), (1, .ref tx), (2, .ref tl)]) hx hb dX6_readItem_8 rfl hl (by decide) rfl (fun ls hl => ?_)
  refine lv_aload_n hx hb dX6_readItem_9 rfl (lv_at hl 1 rfl) ?_
  refine lv_dup hx hb dX6_readItem_10 rfl ?_
  refine q_get (ci := 6) (CC := RX6) (T := TX6) (N := 2) (v := .int (nI pk)) hx hb hts hin6 hown hK hP 0 rfl rfl 1 (by decide) (hts (.fieldLink RX6 15 "DearAsMany$Reader" "place" "I") (by decide +kernel)) rfl rfl dX6_readItem_11 ?_
  refine lv_iconst (v := nI 1) hx hb dX6_readItem_14 (by decide) ?_
  refine q_iadd (v := nI (pk + 1)) hx hb dX6_readItem_15 (nI_add _ _) ?_
  refine q_put (ci := 6) (CC := RX6) (T := TX6) (N := 2) (w2 := [(rd, .inr (6, [.ref rn, .int (nI (pk + 1))])), (rn, .inl (cI, 5, .inl nu)), (tx, .inr (8, [.ref tb, .int (nI tn)])), (tb, .inl (cB, 300, .inl tby)), (tl, .inr (4, [.ref tt, .int (nI m1), .int (nI fo), .int (nI se)])), (tt, .inl (cI, 35, .inl tr))]) hx hb hts hin6 tyX6 tyX6_ok nmX6 hown hK hP hD hS 0 rfl rfl 1 (by decide) (hts (.fieldLink RX6 15 "DearAsMany$Reader" "place" "I") (by decide +kernel)) rfl rfl rfl (Nat.le_of_ble_eq_true rfl) dX6_readItem_16 rfl (fun H locs hP hD hS => ?_)
  refine lv_iload_n hx hb dX6_readItem_19 rfl (lv_at hl 0 rfl) ?_
  refine q_tsw (x := nI (tf pk)) (lo := 111) (hi := 115) (fun c_20 => ?_) (fun c_20a c_20b => ?_)
  · refine lv_tableOut (tgt := 178) hx hb dX6_readItem_20 c_20 (by decide) ?_
    rw [nI_toInt (by have := (hTx.2 pk hp).1; omega)] at c_20
    refine lv_iconst (v := nI 0) hx hb dX6_readItem_178 (by decide) ?_
    exact q_mret (S := (Int32 × (Nat → Int32) × Nat × Nat × Nat × (Nat → Int32))) (v := nI 0) (w1 := fun u => [(rd, .inr (6, [.ref rn, .int u.1])), (rn, .inl (cI, 5, .inl u.2.1)), (tx, .inr (8, [.ref tb, .int (nI tn)])), (tb, .inl (cB, 300, .inl tby)), (tl, .inr (4, [.ref tt, .int (nI u.2.2.1), .int (nI u.2.2.2.1), .int (nI u.2.2.2.2.1)])), (tt, .inl (cI, 35, .inl u.2.2.2.2.2))]) (nI (pk + 1), nu, m1, fo, se, tr) hx hb hr hlocks (q_nar0) hP hS dX6_readItem_179 (by exact q_eN (q_itN (by omega) (by omega) (by omega)))
  · rcases (show (nI (tf pk)).toInt = 111 ∨ (nI (tf pk)).toInt = 112 ∨ (nI (tf pk)).toInt = 113 ∨ (nI (tf pk)).toInt = 114 ∨ (nI (tf pk)).toInt = 115 from by omega) with c_20 | c_20 | c_20 | c_20 | c_20
    · refine lv_tableIn (off := 98) (tgt := 118) hx hb dX6_readItem_20 (by rw [c_20]; decide) (by rw [c_20]; decide) (by rw [c_20]; rfl) (by decide) ?_
      rw [nI_toInt (by have := (hTx.2 pk hp).1; omega)] at c_20
      refine lv_aload_n hx hb dX6_readItem_118 rfl (lv_at hl 1 rfl) ?_
      refine lv_aload_n hx hb dX6_readItem_119 rfl (lv_at hl 2 rfl) ?_
      refine lv_iconst (v := nI 1) hx hb dX6_readItem_120 (by decide) ?_
      refine q_vmi (S := (Int32 × (Nat → Int32))) (w1 := fun u => [(rd, .inr (6, [.ref rn, .int u.1])), (rn, .inl (cI, 5, .inl u.2)), (tx, .inr (8, [.ref tb, .int (nI tn)])), (tb, .inl (cB, 300, .inl tby))]) (w2 := fun u => [(rd, .inr (6, [.ref rn, .int u.1])), (rn, .inl (cI, 5, .inl u.2)), (tx, .inr (8, [.ref tb, .int (nI tn)])), (tb, .inl (cB, 300, .inl tby)), (tl, .inr (4, [.ref tt, .int (nI m1), .int (nI fo), .int (nI se)])), (tt, .inl (cI, 35, .inl tr))]) (As := [.ref tx, .int (nI 1)]) (rest := []) ⟨hx, hb, hml, hown, hts⟩ (c_X6_readNumbers l (D := D) (cI := cI) (cB := cB) (cZ := cZ) (rd := rd) (rn := rn) (tx := tx) (tb := tb) (tn := tn) (tby := tby) (tf := tf) (pk := pk + 1) (many := 1) (nu := nu) (by first | assumption | exact Nat.zero_le _ | omega) (by omega) (by decide)) (cwV 2 hts gX6_readItem_X6_readNumbers rfl rfl rfl (by decide +kernel) ⟨Nat.le_of_ble_eq_true rfl, Nat.le_of_ble_eq_true rfl⟩) hK hP hD hS hA [0, 1, 2, 3] rfl (by decide) 0 6 rfl rfl rfl rfl hl.1 rfl (Nat.le_of_ble_eq_true rfl) dX6_readItem_121 ⟨Nat.zero_le _, Nat.zero_le _⟩ (fun _ => rfl) (fun _ => rfl) (fun _ => rfl) (fun r_121 w1 H locs hr_121 hP hD hS => ?_)
      have hP : va_P D vwCl [(rd, .inr (6, [.ref rn, .int w1.1])), (rn, .inl (cI, 5, .inl w1.2)), (tx, .inr (8, [.ref tb, .int (nI tn)])), (tb, .inl (cB, 300, .inl tby)), (tl, .inr (4, [.ref tt, .int (nI m1), .int (nI fo), .int (nI se)])), (tt, .inl (cI, 35, .inl tr))] H := hP
      have hD : va_D A [(rd, .inr (6, [.ref rn, .int w1.1])), (rn, .inl (cI, 5, .inl w1.2)), (tx, .inr (8, [.ref tb, .int (nI tn)])), (tb, .inl (cB, 300, .inl tby)), (tl, .inr (4, [.ref tt, .int (nI m1), .int (nI fo), .int (nI se)])), (tt, .inl (cI, 35, .inl tr))] := hD
      try dsimp only at hr_121
      obtain ⟨e_r_121, hr_121⟩ := hr_121
      have e_r_121 : bI ((q_ns tn tf 1 (pk + 1)).isSome) = r_121 := (show r_121 = bI ((q_ns tn tf 1 (pk + 1)).isSome) from e_r_121).symm
      subst e_r_121
      refine q_beq (tgt := 146) hx hb dX6_readItem_124 (by decide) (fun c_124 => ?_) (fun c_124 => ?_)
      · refine lv_iconst (v := nI 0) hx hb dX6_readItem_146 (by decide) ?_
        exact q_mret (S := (Int32 × (Nat → Int32) × Nat × Nat × Nat × (Nat → Int32))) (v := nI 0) (w1 := fun u => [(rd, .inr (6, [.ref rn, .int u.1])), (rn, .inl (cI, 5, .inl u.2.1)), (tx, .inr (8, [.ref tb, .int (nI tn)])), (tb, .inl (cB, 300, .inl tby)), (tl, .inr (4, [.ref tt, .int (nI u.2.2.1), .int (nI u.2.2.2.1), .int (nI u.2.2.2.2.1)])), (tt, .inl (cI, 35, .inl u.2.2.2.2.2))]) (w1.1, w1.2, m1, fo, se, tr) hx hb hr hlocks (q_nar0) hP hS dX6_readItem_147 (by exact q_eN (q_itO1 (by omega) (q_isN c_124)))
      · obtain ⟨xx, hq⟩ := q_isS c_124
        obtain ⟨e1, e2⟩ := hr_121 xx hq
        refine lv_aload_n hx hb dX6_readItem_127 rfl (lv_at hl 3 rfl) ?_
        refine lv_aload_n hx hb dX6_readItem_128 rfl (lv_at hl 1 rfl) ?_
        refine q_get (ci := 6) (CC := RX6) (T := TX6) (N := 2) (v := .ref rn) hx hb hts hin6 hown hK hP 0 rfl rfl 0 (by decide) (hts (.fieldLink RX6 9 "DearAsMany$Reader" "numbers" "[I") (by decide +kernel)) rfl rfl dX6_readItem_129 ?_
        refine lv_iconst (v := nI 0) hx hb dX6_readItem_132 (by decide) ?_
        refine q_ni (As := [.ref rn, .int (nI 0)]) (rest := [.ref tl]) ⟨hx, hb, hml, hown, hts⟩ (c_X9_at l (D := D) (cI := cI) (cB := cB) (cZ := cZ) (a := rn) (N := 5) (k := 0) (f := w1.2) (by decide) (by decide)) ⟨va_cnB 2 hts gX6_readItem_X9_at_n41 rfl rfl rfl (hK.2.at 18 rfl) (hts (.initialized RX9) (by decide +kernel)) (by decide +kernel) ⟨Nat.le_of_ble_eq_true rfl, Nat.le_of_ble_eq_true rfl⟩, hts (.static yX9_at) (by decide +kernel), trivial⟩ hK hP [1] rfl rfl hl.1 rfl (Nat.le_of_ble_eq_true rfl) dX6_readItem_133 ⟨Nat.zero_le _, Nat.zero_le _⟩ (fun r_133 hr_133 => ?_)
        have hr_133 : nI (xx.1.getD 0 0) = r_133 := (Eq.trans (show r_133 = w1.2 0 from hr_133) (e2 0 (by decide))).symm
        subst hr_133
        refine q_vmi (S := Nat) (w1 := fun u => [(tl, .inr (4, [.ref tt, .int (nI m1), .int (nI u), .int (nI se)]))]) (w2 := fun u => [(rd, .inr (6, [.ref rn, .int w1.1])), (rn, .inl (cI, 5, .inl w1.2)), (tx, .inr (8, [.ref tb, .int (nI tn)])), (tb, .inl (cB, 300, .inl tby)), (tl, .inr (4, [.ref tt, .int (nI m1), .int (nI u), .int (nI se)])), (tt, .inl (cI, 35, .inl tr))]) (As := [.int (nI (xx.1.getD 0 0))]) (rest := []) ⟨hx, hb, hml, hown, hts⟩ (c_X4_giveOne l (D := D) (cI := cI) (cB := cB) (cZ := cZ) (hp := tl) (ht := tt) (v := xx.1.getD 0 0) (m1 := m1) (fo := fo) (ss := nI se) (by have := q_ns_le hq 0; omega) (by first | assumption | exact Nat.zero_le _ | omega)) (cwV 1 hts gX6_readItem_X4_giveOne rfl rfl rfl (by decide +kernel) ⟨Nat.le_of_ble_eq_true rfl, Nat.le_of_ble_eq_true rfl⟩) hK hP hD hS hA [4] rfl (by decide) 4 4 rfl rfl rfl rfl hl.1 rfl (Nat.le_of_ble_eq_true rfl) dX6_readItem_136 ⟨Nat.zero_le _, Nat.zero_le _⟩ (fun _ => rfl) (fun _ => rfl) (fun _ => rfl) (fun r_136 w2 H locs hr_136 hP hD hS => ?_)
        have hP : va_P D vwCl [(rd, .inr (6, [.ref rn, .int w1.1])), (rn, .inl (cI, 5, .inl w1.2)), (tx, .inr (8, [.ref tb, .int (nI tn)])), (tb, .inl (cB, 300, .inl tby)), (tl, .inr (4, [.ref tt, .int (nI m1), .int (nI w2), .int (nI se)])), (tt, .inl (cI, 35, .inl tr))] H := hP
        have hD : va_D A [(rd, .inr (6, [.ref rn, .int w1.1])), (rn, .inl (cI, 5, .inl w1.2)), (tx, .inr (8, [.ref tb, .int (nI tn)])), (tb, .inl (cB, 300, .inl tby)), (tl, .inr (4, [.ref tt, .int (nI m1), .int (nI w2), .int (nI se)])), (tt, .inl (cI, 35, .inl tr))] := hD
        try dsimp only at hr_136
        obtain ⟨e_r_136, hr_136⟩ := hr_136
        have e_r_136 : bI (decide ((xx.1.getD 0 0) < m1)) = r_136 := (show r_136 = bI (decide ((xx.1.getD 0 0) < m1)) from e_r_136).symm
        subst e_r_136
        refine q_beq (tgt := 146) hx hb dX6_readItem_139 (by decide) (fun c_139 => ?_) (fun c_139 => ?_)
        · refine lv_iconst (v := nI 0) hx hb dX6_readItem_146 (by decide) ?_
          exact q_mret (S := (Int32 × (Nat → Int32) × Nat × Nat × Nat × (Nat → Int32))) (v := nI 0) (w1 := fun u => [(rd, .inr (6, [.ref rn, .int u.1])), (rn, .inl (cI, 5, .inl u.2.1)), (tx, .inr (8, [.ref tb, .int (nI tn)])), (tb, .inl (cB, 300, .inl tby)), (tl, .inr (4, [.ref tt, .int (nI u.2.2.1), .int (nI u.2.2.2.1), .int (nI u.2.2.2.2.1)])), (tt, .inl (cI, 35, .inl u.2.2.2.2.2))]) (w1.1, w1.2, m1, w2, se, tr) hx hb hr hlocks (q_nar0) hP hS dX6_readItem_147 (by exact q_eN (q_itO3 (by omega) hq (of_decide_eq_false c_139)))
        · refine lv_iconst (v := nI 1) hx hb dX6_readItem_142 (by decide) ?_
          refine lv_goto (tgt := 147) hx hb dX6_readItem_143 (by decide) ?_
          exact q_mret (S := (Int32 × (Nat → Int32) × Nat × Nat × Nat × (Nat → Int32))) (v := nI 1) (w1 := fun u => [(rd, .inr (6, [.ref rn, .int u.1])), (rn, .inl (cI, 5, .inl u.2.1)), (tx, .inr (8, [.ref tb, .int (nI tn)])), (tb, .inl (cB, 300, .inl tby)), (tl, .inr (4, [.ref tt, .int (nI u.2.2.1), .int (nI u.2.2.2.1), .int (nI u.2.2.2.2.1)])), (tt, .inl (cI, 35, .inl u.2.2.2.2.2))]) (w1.1, w1.2, m1, w2, se, tr) hx hb hr hlocks (q_nar1) hP hS dX6_readItem_147 (by exact q_eS (q_itO2 (by omega) hq (of_decide_eq_true c_139)) ⟨e1, rfl, hr_136 (of_decide_eq_true c_139), rfl, hR⟩)
    · refine lv_tableIn (off := 36) (tgt := 56) hx hb dX6_readItem_20 (by rw [c_20]; decide) (by rw [c_20]; decide) (by rw [c_20]; rfl) (by decide) ?_
      rw [nI_toInt (by have := (hTx.2 pk hp).1; omega)] at c_20
      refine lv_aload_n hx hb dX6_readItem_56 rfl (lv_at hl 1 rfl) ?_
      refine lv_aload_n hx hb dX6_readItem_57 rfl (lv_at hl 2 rfl) ?_
      refine lv_iconst (v := nI 5) hx hb dX6_readItem_58 (by decide) ?_
      refine q_vmi (S := (Int32 × (Nat → Int32))) (w1 := fun u => [(rd, .inr (6, [.ref rn, .int u.1])), (rn, .inl (cI, 5, .inl u.2)), (tx, .inr (8, [.ref tb, .int (nI tn)])), (tb, .inl (cB, 300, .inl tby))]) (w2 := fun u => [(rd, .inr (6, [.ref rn, .int u.1])), (rn, .inl (cI, 5, .inl u.2)), (tx, .inr (8, [.ref tb, .int (nI tn)])), (tb, .inl (cB, 300, .inl tby)), (tl, .inr (4, [.ref tt, .int (nI m1), .int (nI fo), .int (nI se)])), (tt, .inl (cI, 35, .inl tr))]) (As := [.ref tx, .int (nI 5)]) (rest := []) ⟨hx, hb, hml, hown, hts⟩ (c_X6_readNumbers l (D := D) (cI := cI) (cB := cB) (cZ := cZ) (rd := rd) (rn := rn) (tx := tx) (tb := tb) (tn := tn) (tby := tby) (tf := tf) (pk := pk + 1) (many := 5) (nu := nu) (by first | assumption | exact Nat.zero_le _ | omega) (by omega) (by decide)) (cwV 2 hts gX6_readItem_X6_readNumbers rfl rfl rfl (by decide +kernel) ⟨Nat.le_of_ble_eq_true rfl, Nat.le_of_ble_eq_true rfl⟩) hK hP hD hS hA [0, 1, 2, 3] rfl (by decide) 0 6 rfl rfl rfl rfl hl.1 rfl (Nat.le_of_ble_eq_true rfl) dX6_readItem_59 ⟨Nat.zero_le _, Nat.zero_le _⟩ (fun _ => rfl) (fun _ => rfl) (fun _ => rfl) (fun r_59 w1 H locs hr_59 hP hD hS => ?_)
      have hP : va_P D vwCl [(rd, .inr (6, [.ref rn, .int w1.1])), (rn, .inl (cI, 5, .inl w1.2)), (tx, .inr (8, [.ref tb, .int (nI tn)])), (tb, .inl (cB, 300, .inl tby)), (tl, .inr (4, [.ref tt, .int (nI m1), .int (nI fo), .int (nI se)])), (tt, .inl (cI, 35, .inl tr))] H := hP
      have hD : va_D A [(rd, .inr (6, [.ref rn, .int w1.1])), (rn, .inl (cI, 5, .inl w1.2)), (tx, .inr (8, [.ref tb, .int (nI tn)])), (tb, .inl (cB, 300, .inl tby)), (tl, .inr (4, [.ref tt, .int (nI m1), .int (nI fo), .int (nI se)])), (tt, .inl (cI, 35, .inl tr))] := hD
      try dsimp only at hr_59
      obtain ⟨e_r_59, hr_59⟩ := hr_59
      have e_r_59 : bI ((q_ns tn tf 5 (pk + 1)).isSome) = r_59 := (show r_59 = bI ((q_ns tn tf 5 (pk + 1)).isSome) from e_r_59).symm
      subst e_r_59
      refine q_beq (tgt := 116) hx hb dX6_readItem_62 (by decide) (fun c_62 => ?_) (fun c_62 => ?_)
      · refine lv_iconst (v := nI 0) hx hb dX6_readItem_116 (by decide) ?_
        exact q_mret (S := (Int32 × (Nat → Int32) × Nat × Nat × Nat × (Nat → Int32))) (v := nI 0) (w1 := fun u => [(rd, .inr (6, [.ref rn, .int u.1])), (rn, .inl (cI, 5, .inl u.2.1)), (tx, .inr (8, [.ref tb, .int (nI tn)])), (tb, .inl (cB, 300, .inl tby)), (tl, .inr (4, [.ref tt, .int (nI u.2.2.1), .int (nI u.2.2.2.1), .int (nI u.2.2.2.2.1)])), (tt, .inl (cI, 35, .inl u.2.2.2.2.2))]) (w1.1, w1.2, m1, fo, se, tr) hx hb hr hlocks (q_nar0) hP hS dX6_readItem_117 (by exact q_eN (q_itP1 (by omega) (q_isN c_62)))
      · obtain ⟨xx, hq⟩ := q_isS c_62
        obtain ⟨e1, e2⟩ := hr_59 xx hq
        refine lv_aload_n hx hb dX6_readItem_65 rfl (lv_at hl 3 rfl) ?_
        refine lv_aload_n hx hb dX6_readItem_66 rfl (lv_at hl 1 rfl) ?_
        refine q_get (ci := 6) (CC := RX6) (T := TX6) (N := 2) (v := .ref rn) hx hb hts hin6 hown hK hP 0 rfl rfl 0 (by decide) (hts (.fieldLink RX6 9 "DearAsMany$Reader" "numbers" "[I") (by decide +kernel)) rfl rfl dX6_readItem_67 ?_
        refine lv_iconst (v := nI 0) hx hb dX6_readItem_70 (by decide) ?_
        refine q_ni (As := [.ref rn, .int (nI 0)]) (rest := [.ref tl]) ⟨hx, hb, hml, hown, hts⟩ (c_X9_at l (D := D) (cI := cI) (cB := cB) (cZ := cZ) (a := rn) (N := 5) (k := 0) (f := w1.2) (by decide) (by decide)) ⟨va_cnB 2 hts gX6_readItem_X9_at_n41 rfl rfl rfl (hK.2.at 18 rfl) (hts (.initialized RX9) (by decide +kernel)) (by decide +kernel) ⟨Nat.le_of_ble_eq_true rfl, Nat.le_of_ble_eq_true rfl⟩, hts (.static yX9_at) (by decide +kernel), trivial⟩ hK hP [1] rfl rfl hl.1 rfl (Nat.le_of_ble_eq_true rfl) dX6_readItem_71 ⟨Nat.zero_le _, Nat.zero_le _⟩ (fun r_71 hr_71 => ?_)
        have hr_71 : nI (xx.1.getD 0 0) = r_71 := (Eq.trans (show r_71 = w1.2 0 from hr_71) (e2 0 (by decide))).symm
        subst hr_71
        refine lv_aload_n hx hb dX6_readItem_74 rfl (lv_at hl 1 rfl) ?_
        refine q_get (ci := 6) (CC := RX6) (T := TX6) (N := 2) (v := .ref rn) hx hb hts hin6 hown hK hP 0 rfl rfl 0 (by decide) (hts (.fieldLink RX6 9 "DearAsMany$Reader" "numbers" "[I") (by decide +kernel)) rfl rfl dX6_readItem_75 ?_
        refine lv_iconst (v := nI 1) hx hb dX6_readItem_78 (by decide) ?_
        refine q_ni (As := [.ref rn, .int (nI 1)]) (rest := [.int (nI (xx.1.getD 0 0)), .ref tl]) ⟨hx, hb, hml, hown, hts⟩ (c_X9_at l (D := D) (cI := cI) (cB := cB) (cZ := cZ) (a := rn) (N := 5) (k := 1) (f := w1.2) (by decide) (by decide)) ⟨va_cnB 2 hts gX6_readItem_X9_at_n41 rfl rfl rfl (hK.2.at 18 rfl) (hts (.initialized RX9) (by decide +kernel)) (by decide +kernel) ⟨Nat.le_of_ble_eq_true rfl, Nat.le_of_ble_eq_true rfl⟩, hts (.static yX9_at) (by decide +kernel), trivial⟩ hK hP [1] rfl rfl hl.1 rfl (Nat.le_of_ble_eq_true rfl) dX6_readItem_79 ⟨Nat.zero_le _, Nat.zero_le _⟩ (fun r_79 hr_79 => ?_)
        have hr_79 : nI (xx.1.getD 1 0) = r_79 := (Eq.trans (show r_79 = w1.2 1 from hr_79) (e2 1 (by decide))).symm
        subst hr_79
        refine lv_aload_n hx hb dX6_readItem_82 rfl (lv_at hl 1 rfl) ?_
        refine q_get (ci := 6) (CC := RX6) (T := TX6) (N := 2) (v := .ref rn) hx hb hts hin6 hown hK hP 0 rfl rfl 0 (by decide) (hts (.fieldLink RX6 9 "DearAsMany$Reader" "numbers" "[I") (by decide +kernel)) rfl rfl dX6_readItem_83 ?_
        refine lv_iconst (v := nI 2) hx hb dX6_readItem_86 (by decide) ?_
        refine q_ni (As := [.ref rn, .int (nI 2)]) (rest := [.int (nI (xx.1.getD 1 0)), .int (nI (xx.1.getD 0 0)), .ref tl]) ⟨hx, hb, hml, hown, hts⟩ (c_X9_at l (D := D) (cI := cI) (cB := cB) (cZ := cZ) (a := rn) (N := 5) (k := 2) (f := w1.2) (by decide) (by decide)) ⟨va_cnB 2 hts gX6_readItem_X9_at_n41 rfl rfl rfl (hK.2.at 18 rfl) (hts (.initialized RX9) (by decide +kernel)) (by decide +kernel) ⟨Nat.le_of_ble_eq_true rfl, Nat.le_of_ble_eq_true rfl⟩, hts (.static yX9_at) (by decide +kernel), trivial⟩ hK hP [1] rfl rfl hl.1 rfl (Nat.le_of_ble_eq_true rfl) dX6_readItem_87 ⟨Nat.zero_le _, Nat.zero_le _⟩ (fun r_87 hr_87 => ?_)
        have hr_87 : nI (xx.1.getD 2 0) = r_87 := (Eq.trans (show r_87 = w1.2 2 from hr_87) (e2 2 (by decide))).symm
        subst hr_87
        refine lv_aload_n hx hb dX6_readItem_90 rfl (lv_at hl 1 rfl) ?_
        refine q_get (ci := 6) (CC := RX6) (T := TX6) (N := 2) (v := .ref rn) hx hb hts hin6 hown hK hP 0 rfl rfl 0 (by decide) (hts (.fieldLink RX6 9 "DearAsMany$Reader" "numbers" "[I") (by decide +kernel)) rfl rfl dX6_readItem_91 ?_
        refine lv_iconst (v := nI 3) hx hb dX6_readItem_94 (by decide) ?_
        refine q_ni (As := [.ref rn, .int (nI 3)]) (rest := [.int (nI (xx.1.getD 2 0)), .int (nI (xx.1.getD 1 0)), .int (nI (xx.1.getD 0 0)), .ref tl]) ⟨hx, hb, hml, hown, hts⟩ (c_X9_at l (D := D) (cI := cI) (cB := cB) (cZ := cZ) (a := rn) (N := 5) (k := 3) (f := w1.2) (by decide) (by decide)) ⟨va_cnB 2 hts gX6_readItem_X9_at_n41 rfl rfl rfl (hK.2.at 18 rfl) (hts (.initialized RX9) (by decide +kernel)) (by decide +kernel) ⟨Nat.le_of_ble_eq_true rfl, Nat.le_of_ble_eq_true rfl⟩, hts (.static yX9_at) (by decide +kernel), trivial⟩ hK hP [1] rfl rfl hl.1 rfl (Nat.le_of_ble_eq_true rfl) dX6_readItem_95 ⟨Nat.zero_le _, Nat.zero_le _⟩ (fun r_95 hr_95 => ?_)
        have hr_95 : nI (xx.1.getD 3 0) = r_95 := (Eq.trans (show r_95 = w1.2 3 from hr_95) (e2 3 (by decide))).symm
        subst hr_95
        refine lv_aload_n hx hb dX6_readItem_98 rfl (lv_at hl 1 rfl) ?_
        refine q_get (ci := 6) (CC := RX6) (T := TX6) (N := 2) (v := .ref rn) hx hb hts hin6 hown hK hP 0 rfl rfl 0 (by decide) (hts (.fieldLink RX6 9 "DearAsMany$Reader" "numbers" "[I") (by decide +kernel)) rfl rfl dX6_readItem_99 ?_
        refine lv_iconst (v := nI 4) hx hb dX6_readItem_102 (by decide) ?_
        refine q_ni (As := [.ref rn, .int (nI 4)]) (rest := [.int (nI (xx.1.getD 3 0)), .int (nI (xx.1.getD 2 0)), .int (nI (xx.1.getD 1 0)), .int (nI (xx.1.getD 0 0)), .ref tl]) ⟨hx, hb, hml, hown, hts⟩ (c_X9_at l (D := D) (cI := cI) (cB := cB) (cZ := cZ) (a := rn) (N := 5) (k := 4) (f := w1.2) (by decide) (by decide)) ⟨va_cnB 2 hts gX6_readItem_X9_at_n41 rfl rfl rfl (hK.2.at 18 rfl) (hts (.initialized RX9) (by decide +kernel)) (by decide +kernel) ⟨Nat.le_of_ble_eq_true rfl, Nat.le_of_ble_eq_true rfl⟩, hts (.static yX9_at) (by decide +kernel), trivial⟩ hK hP [1] rfl rfl hl.1 rfl (Nat.le_of_ble_eq_true rfl) dX6_readItem_103 ⟨Nat.zero_le _, Nat.zero_le _⟩ (fun r_103 hr_103 => ?_)
        have hr_103 : nI (xx.1.getD 4 0) = r_103 := (Eq.trans (show r_103 = w1.2 4 from hr_103) (e2 4 (by decide))).symm
        subst hr_103
        refine q_vmi (S := (Nat × (Nat → Int32))) (w1 := fun u => [(tl, .inr (4, [.ref tt, .int (nI u.1), .int (nI fo), .int (nI se)])), (tt, .inl (cI, 35, .inl u.2))]) (w2 := fun u => [(rd, .inr (6, [.ref rn, .int w1.1])), (rn, .inl (cI, 5, .inl w1.2)), (tx, .inr (8, [.ref tb, .int (nI tn)])), (tb, .inl (cB, 300, .inl tby)), (tl, .inr (4, [.ref tt, .int (nI u.1), .int (nI fo), .int (nI se)])), (tt, .inl (cI, 35, .inl u.2))]) (As := [.int (nI (xx.1.getD 0 0)), .int (nI (xx.1.getD 1 0)), .int (nI (xx.1.getD 2 0)), .int (nI (xx.1.getD 3 0)), .int (nI (xx.1.getD 4 0))]) (rest := []) ⟨hx, hb, hml, hown, hts⟩ (c_X4_add l (D := D) (cI := cI) (cB := cB) (cZ := cZ) (hp := tl) (ht := tt) (m1 := m1) (k0 := xx.1.getD 0 0) (k1 := xx.1.getD 1 0) (k2 := xx.1.getD 2 0) (k3 := xx.1.getD 3 0) (k4 := xx.1.getD 4 0) (fo := nI fo) (ss := nI se) (tr := tr) (by first | assumption | exact Nat.zero_le _ | omega) (by have := q_ns_le hq 0; omega) (by have := q_ns_le hq 2; omega) (by have := q_ns_le hq 3; omega)) (cwV 5 hts gX6_readItem_X4_add rfl rfl rfl (by decide +kernel) ⟨Nat.le_of_ble_eq_true rfl, Nat.le_of_ble_eq_true rfl⟩) hK hP hD hS hA [4, 5] rfl (by decide) 4 4 rfl rfl rfl rfl hl.1 rfl (Nat.le_of_ble_eq_true rfl) dX6_readItem_106 ⟨Nat.zero_le _, Nat.zero_le _⟩ (fun _ => rfl) (fun _ => rfl) (fun _ => rfl) (fun r_106 w2 H locs hr_106 hP hD hS => ?_)
        have hP : va_P D vwCl [(rd, .inr (6, [.ref rn, .int w1.1])), (rn, .inl (cI, 5, .inl w1.2)), (tx, .inr (8, [.ref tb, .int (nI tn)])), (tb, .inl (cB, 300, .inl tby)), (tl, .inr (4, [.ref tt, .int (nI w2.1), .int (nI fo), .int (nI se)])), (tt, .inl (cI, 35, .inl w2.2))] H := hP
        have hD : va_D A [(rd, .inr (6, [.ref rn, .int w1.1])), (rn, .inl (cI, 5, .inl w1.2)), (tx, .inr (8, [.ref tb, .int (nI tn)])), (tb, .inl (cB, 300, .inl tby)), (tl, .inr (4, [.ref tt, .int (nI w2.1), .int (nI fo), .int (nI se)])), (tt, .inl (cI, 35, .inl w2.2))] := hD
        try dsimp only at hr_106
        obtain ⟨e_r_106, hr_106⟩ := hr_106
        have e_r_106 : bI (q_adOk m1 (xx.1.getD 0 0) (xx.1.getD 2 0) (xx.1.getD 3 0)) = r_106 := (show r_106 = bI (q_adOk m1 (xx.1.getD 0 0) (xx.1.getD 2 0) (xx.1.getD 3 0)) from e_r_106).symm
        subst e_r_106
        refine q_beq (tgt := 116) hx hb dX6_readItem_109 (by decide) (fun c_109 => ?_) (fun c_109 => ?_)
        · refine lv_iconst (v := nI 0) hx hb dX6_readItem_116 (by decide) ?_
          exact q_mret (S := (Int32 × (Nat → Int32) × Nat × Nat × Nat × (Nat → Int32))) (v := nI 0) (w1 := fun u => [(rd, .inr (6, [.ref rn, .int u.1])), (rn, .inl (cI, 5, .inl u.2.1)), (tx, .inr (8, [.ref tb, .int (nI tn)])), (tb, .inl (cB, 300, .inl tby)), (tl, .inr (4, [.ref tt, .int (nI u.2.2.1), .int (nI u.2.2.2.1), .int (nI u.2.2.2.2.1)])), (tt, .inl (cI, 35, .inl u.2.2.2.2.2))]) (w1.1, w1.2, w2.1, fo, se, w2.2) hx hb hr hlocks (q_nar0) hP hS dX6_readItem_117 (by exact q_eN (q_itP3 (by omega) hq c_109))
        · refine lv_iconst (v := nI 1) hx hb dX6_readItem_112 (by decide) ?_
          refine lv_goto (tgt := 117) hx hb dX6_readItem_113 (by decide) ?_
          exact q_mret (S := (Int32 × (Nat → Int32) × Nat × Nat × Nat × (Nat → Int32))) (v := nI 1) (w1 := fun u => [(rd, .inr (6, [.ref rn, .int u.1])), (rn, .inl (cI, 5, .inl u.2.1)), (tx, .inr (8, [.ref tb, .int (nI tn)])), (tb, .inl (cB, 300, .inl tby)), (tl, .inr (4, [.ref tt, .int (nI u.2.2.1), .int (nI u.2.2.2.1), .int (nI u.2.2.2.2.1)])), (tt, .inl (cI, 35, .inl u.2.2.2.2.2))]) (w1.1, w1.2, w2.1, fo, se, w2.2) hx hb hr hlocks (q_nar1) hP hS dX6_readItem_117 (by exact q_eS (q_itP2 (by omega) hq c_109) ⟨e1, (hr_106 c_109).1, rfl, rfl, (hr_106 c_109).2 R hR⟩)
    · refine lv_tableIn (off := 158) (tgt := 178) hx hb dX6_readItem_20 (by rw [c_20]; decide) (by rw [c_20]; decide) (by rw [c_20]; rfl) (by decide) ?_
      rw [nI_toInt (by have := (hTx.2 pk hp).1; omega)] at c_20
      refine lv_iconst (v := nI 0) hx hb dX6_readItem_178 (by decide) ?_
      exact q_mret (S := (Int32 × (Nat → Int32) × Nat × Nat × Nat × (Nat → Int32))) (v := nI 0) (w1 := fun u => [(rd, .inr (6, [.ref rn, .int u.1])), (rn, .inl (cI, 5, .inl u.2.1)), (tx, .inr (8, [.ref tb, .int (nI tn)])), (tb, .inl (cB, 300, .inl tby)), (tl, .inr (4, [.ref tt, .int (nI u.2.2.1), .int (nI u.2.2.2.1), .int (nI u.2.2.2.2.1)])), (tt, .inl (cI, 35, .inl u.2.2.2.2.2))]) (nI (pk + 1), nu, m1, fo, se, tr) hx hb hr hlocks (q_nar0) hP hS dX6_readItem_179 (by exact q_eN (q_itN (by omega) (by omega) (by omega)))
    · refine lv_tableIn (off := 158) (tgt := 178) hx hb dX6_readItem_20 (by rw [c_20]; decide) (by rw [c_20]; decide) (by rw [c_20]; rfl) (by decide) ?_
      rw [nI_toInt (by have := (hTx.2 pk hp).1; omega)] at c_20
      refine lv_iconst (v := nI 0) hx hb dX6_readItem_178 (by decide) ?_
      exact q_mret (S := (Int32 × (Nat → Int32) × Nat × Nat × Nat × (Nat → Int32))) (v := nI 0) (w1 := fun u => [(rd, .inr (6, [.ref rn, .int u.1])), (rn, .inl (cI, 5, .inl u.2.1)), (tx, .inr (8, [.ref tb, .int (nI tn)])), (tb, .inl (cB, 300, .inl tby)), (tl, .inr (4, [.ref tt, .int (nI u.2.2.1), .int (nI u.2.2.2.1), .int (nI u.2.2.2.2.1)])), (tt, .inl (cI, 35, .inl u.2.2.2.2.2))]) (nI (pk + 1), nu, m1, fo, se, tr) hx hb hr hlocks (q_nar0) hP hS dX6_readItem_179 (by exact q_eN (q_itN (by omega) (by omega) (by omega)))
    · refine lv_tableIn (off := 128) (tgt := 148) hx hb dX6_readItem_20 (by rw [c_20]; decide) (by rw [c_20]; decide) (by rw [c_20]; rfl) (by decide) ?_
      rw [nI_toInt (by have := (hTx.2 pk hp).1; omega)] at c_20
      refine lv_aload_n hx hb dX6_readItem_148 rfl (lv_at hl 1 rfl) ?_
      refine lv_aload_n hx hb dX6_readItem_149 rfl (lv_at hl 2 rfl) ?_
      refine lv_iconst (v := nI 1) hx hb dX6_readItem_150 (by decide) ?_
      refine q_vmi (S := (Int32 × (Nat → Int32))) (w1 := fun u => [(rd, .inr (6, [.ref rn, .int u.1])), (rn, .inl (cI, 5, .inl u.2)), (tx, .inr (8, [.ref tb, .int (nI tn)])), (tb, .inl (cB, 300, .inl tby))]) (w2 := fun u => [(rd, .inr (6, [.ref rn, .int u.1])), (rn, .inl (cI, 5, .inl u.2)), (tx, .inr (8, [.ref tb, .int (nI tn)])), (tb, .inl (cB, 300, .inl tby)), (tl, .inr (4, [.ref tt, .int (nI m1), .int (nI fo), .int (nI se)])), (tt, .inl (cI, 35, .inl tr))]) (As := [.ref tx, .int (nI 1)]) (rest := []) ⟨hx, hb, hml, hown, hts⟩ (c_X6_readNumbers l (D := D) (cI := cI) (cB := cB) (cZ := cZ) (rd := rd) (rn := rn) (tx := tx) (tb := tb) (tn := tn) (tby := tby) (tf := tf) (pk := pk + 1) (many := 1) (nu := nu) (by first | assumption | exact Nat.zero_le _ | omega) (by omega) (by decide)) (cwV 2 hts gX6_readItem_X6_readNumbers rfl rfl rfl (by decide +kernel) ⟨Nat.le_of_ble_eq_true rfl, Nat.le_of_ble_eq_true rfl⟩) hK hP hD hS hA [0, 1, 2, 3] rfl (by decide) 0 6 rfl rfl rfl rfl hl.1 rfl (Nat.le_of_ble_eq_true rfl) dX6_readItem_151 ⟨Nat.zero_le _, Nat.zero_le _⟩ (fun _ => rfl) (fun _ => rfl) (fun _ => rfl) (fun r_151 w1 H locs hr_151 hP hD hS => ?_)
      have hP : va_P D vwCl [(rd, .inr (6, [.ref rn, .int w1.1])), (rn, .inl (cI, 5, .inl w1.2)), (tx, .inr (8, [.ref tb, .int (nI tn)])), (tb, .inl (cB, 300, .inl tby)), (tl, .inr (4, [.ref tt, .int (nI m1), .int (nI fo), .int (nI se)])), (tt, .inl (cI, 35, .inl tr))] H := hP
      have hD : va_D A [(rd, .inr (6, [.ref rn, .int w1.1])), (rn, .inl (cI, 5, .inl w1.2)), (tx, .inr (8, [.ref tb, .int (nI tn)])), (tb, .inl (cB, 300, .inl tby)), (tl, .inr (4, [.ref tt, .int (nI m1), .int (nI fo), .int (nI se)])), (tt, .inl (cI, 35, .inl tr))] := hD
      try dsimp only at hr_151
      obtain ⟨e_r_151, hr_151⟩ := hr_151
      have e_r_151 : bI ((q_ns tn tf 1 (pk + 1)).isSome) = r_151 := (show r_151 = bI ((q_ns tn tf 1 (pk + 1)).isSome) from e_r_151).symm
      subst e_r_151
      refine q_beq (tgt := 176) hx hb dX6_readItem_154 (by decide) (fun c_154 => ?_) (fun c_154 => ?_)
      · refine lv_iconst (v := nI 0) hx hb dX6_readItem_176 (by decide) ?_
        exact q_mret (S := (Int32 × (Nat → Int32) × Nat × Nat × Nat × (Nat → Int32))) (v := nI 0) (w1 := fun u => [(rd, .inr (6, [.ref rn, .int u.1])), (rn, .inl (cI, 5, .inl u.2.1)), (tx, .inr (8, [.ref tb, .int (nI tn)])), (tb, .inl (cB, 300, .inl tby)), (tl, .inr (4, [.ref tt, .int (nI u.2.2.1), .int (nI u.2.2.2.1), .int (nI u.2.2.2.2.1)])), (tt, .inl (cI, 35, .inl u.2.2.2.2.2))]) (w1.1, w1.2, m1, fo, se, tr) hx hb hr hlocks (q_nar0) hP hS dX6_readItem_177 (by exact q_eN (q_itS1 (by omega) (q_isN c_154)))
      · obtain ⟨xx, hq⟩ := q_isS c_154
        obtain ⟨e1, e2⟩ := hr_151 xx hq
        refine lv_aload_n hx hb dX6_readItem_157 rfl (lv_at hl 3 rfl) ?_
        refine lv_aload_n hx hb dX6_readItem_158 rfl (lv_at hl 1 rfl) ?_
        refine q_get (ci := 6) (CC := RX6) (T := TX6) (N := 2) (v := .ref rn) hx hb hts hin6 hown hK hP 0 rfl rfl 0 (by decide) (hts (.fieldLink RX6 9 "DearAsMany$Reader" "numbers" "[I") (by decide +kernel)) rfl rfl dX6_readItem_159 ?_
        refine lv_iconst (v := nI 0) hx hb dX6_readItem_162 (by decide) ?_
        refine q_ni (As := [.ref rn, .int (nI 0)]) (rest := [.ref tl]) ⟨hx, hb, hml, hown, hts⟩ (c_X9_at l (D := D) (cI := cI) (cB := cB) (cZ := cZ) (a := rn) (N := 5) (k := 0) (f := w1.2) (by decide) (by decide)) ⟨va_cnB 2 hts gX6_readItem_X9_at_n41 rfl rfl rfl (hK.2.at 18 rfl) (hts (.initialized RX9) (by decide +kernel)) (by decide +kernel) ⟨Nat.le_of_ble_eq_true rfl, Nat.le_of_ble_eq_true rfl⟩, hts (.static yX9_at) (by decide +kernel), trivial⟩ hK hP [1] rfl rfl hl.1 rfl (Nat.le_of_ble_eq_true rfl) dX6_readItem_163 ⟨Nat.zero_le _, Nat.zero_le _⟩ (fun r_163 hr_163 => ?_)
        have hr_163 : nI (xx.1.getD 0 0) = r_163 := (Eq.trans (show r_163 = w1.2 0 from hr_163) (e2 0 (by decide))).symm
        subst hr_163
        refine q_vmi (S := Unit) (w1 := fun _ => [(tl, .inr (4, [.ref tt, .int (nI m1), .int (nI fo), .int (nI (xx.1.getD 0 0))]))]) (w2 := fun _ => [(rd, .inr (6, [.ref rn, .int w1.1])), (rn, .inl (cI, 5, .inl w1.2)), (tx, .inr (8, [.ref tb, .int (nI tn)])), (tb, .inl (cB, 300, .inl tby)), (tl, .inr (4, [.ref tt, .int (nI m1), .int (nI fo), .int (nI (xx.1.getD 0 0))])), (tt, .inl (cI, 35, .inl tr))]) (As := [.int (nI (xx.1.getD 0 0))]) (rest := []) ⟨hx, hb, hml, hown, hts⟩ (c_X4_setSeason l (D := D) (cI := cI) (cB := cB) (cZ := cZ) (hp := tl) (ht := tt) (v := nI (xx.1.getD 0 0)) (sz := nI m1) (fo := nI fo) (ss := nI se) ) (cwV 1 hts gX6_readItem_X4_setSeason rfl rfl rfl (by decide +kernel) ⟨Nat.le_of_ble_eq_true rfl, Nat.le_of_ble_eq_true rfl⟩) hK hP hD hS hA [4] rfl (by decide) 4 4 rfl rfl rfl rfl hl.1 rfl (Nat.le_of_ble_eq_true rfl) dX6_readItem_166 ⟨Nat.zero_le _, Nat.zero_le _⟩ (fun _ => rfl) (fun _ => rfl) (fun _ => rfl) (fun r_166 _ H locs hr_166 hP hD hS => ?_)
        have hP : va_P D vwCl [(rd, .inr (6, [.ref rn, .int w1.1])), (rn, .inl (cI, 5, .inl w1.2)), (tx, .inr (8, [.ref tb, .int (nI tn)])), (tb, .inl (cB, 300, .inl tby)), (tl, .inr (4, [.ref tt, .int (nI m1), .int (nI fo), .int (nI (xx.1.getD 0 0))])), (tt, .inl (cI, 35, .inl tr))] H := hP
        have hD : va_D A [(rd, .inr (6, [.ref rn, .int w1.1])), (rn, .inl (cI, 5, .inl w1.2)), (tx, .inr (8, [.ref tb, .int (nI tn)])), (tb, .inl (cB, 300, .inl tby)), (tl, .inr (4, [.ref tt, .int (nI m1), .int (nI fo), .int (nI (xx.1.getD 0 0))])), (tt, .inl (cI, 35, .inl tr))] := hD
        have hr_166 : bI true = r_166 := (show r_166 = bI true from hr_166).symm
        subst hr_166
        refine q_beq (tgt := 176) hx hb dX6_readItem_169 (by decide) (fun c_169 => ?_) (fun c_169 => ?_)
        · exact absurd c_169 (by decide)
        · refine lv_iconst (v := nI 1) hx hb dX6_readItem_172 (by decide) ?_
          refine lv_goto (tgt := 177) hx hb dX6_readItem_173 (by decide) ?_
          exact q_mret (S := (Int32 × (Nat → Int32) × Nat × Nat × Nat × (Nat → Int32))) (v := nI 1) (w1 := fun u => [(rd, .inr (6, [.ref rn, .int u.1])), (rn, .inl (cI, 5, .inl u.2.1)), (tx, .inr (8, [.ref tb, .int (nI tn)])), (tb, .inl (cB, 300, .inl tby)), (tl, .inr (4, [.ref tt, .int (nI u.2.2.1), .int (nI u.2.2.2.1), .int (nI u.2.2.2.2.1)])), (tt, .inl (cI, 35, .inl u.2.2.2.2.2))]) (w1.1, w1.2, m1, fo, xx.1.getD 0 0, tr) hx hb hr hlocks (q_nar1) hP hS dX6_readItem_177 (by exact q_eS (q_itS2 (by omega) hq) ⟨e1, rfl, rfl, rfl, hR⟩)

set_option maxHeartbeats 4000000 in
set_option maxRecDepth 100000 in
theorem c_X6_readAll (l : Launch) {D : va_G} {cI cB cZ : ClassId} {rd : Nat} {rn : Nat} {tx : Nat} {tb : Nat} {tn : Nat} {tby : Nat → Int32} {tf : Nat → Nat} {tl : Nat} {tt : Nat} {pl : Int32} {sz : Int32} {fo0 : Int32} {ss0 : Int32} {nu : Nat → Int32} {tr : Nat → Int32} {zz : Nat} (hTx : q_Tx tn tf tby) : Met l yX6_readAll wsX6_readAll ({ frames := 4, cells := 0, slots := 0, locals := 91 } : Room) (va_Pc [.ref rd, .ref tx, .ref tl] (q_M D (q_tys cI cB cZ) [(rd, .inr (6, [.ref rn, .int pl])), (rn, .inl (cI, 5, .inl nu)), (tx, .inr (8, [.ref tb, .int (nI tn)])), (tb, .inl (cB, 300, .inl tby)), (tl, .inr (4, [.ref tt, .int sz, .int fo0, .int ss0])), (tt, .inl (cI, 35, .inl tr))] zz)) (va_Qi (S := (Int32 × (Nat → Int32) × Int32 × Int32 × Int32 × (Nat → Int32))) (fun r u => r = q_oc (q_fl tn tf).1 ∧ ((q_fl tn tf).1 = none → u.2.2.1 = nI (q_fl tn tf).2.1 ∧ u.2.2.2.1 = nI (q_fl tn tf).2.2.2.1 ∧ u.2.2.2.2.1 = nI (q_fl tn tf).2.2.2.2 ∧ q_Tr (q_fl tn tf).2.2.1 (q_fl tn tf).2.1 u.2.2.2.2.2)) (fun u t => va_P D vwCl ((fun u => [(rd, .inr (6, [.ref rn, .int u.1])), (rn, .inl (cI, 5, .inl u.2.1)), (tx, .inr (8, [.ref tb, .int (nI tn)])), (tb, .inl (cB, 300, .inl tby)), (tl, .inr (4, [.ref tt, .int u.2.2.1, .int u.2.2.2.1, .int u.2.2.2.2.1])), (tt, .inl (cI, 35, .inl u.2.2.2.2.2))]) u) t.heap) (va_A [(rd, .inr (6, [.ref rn, .int pl])), (rn, .inl (cI, 5, .inl nu)), (tx, .inr (8, [.ref tb, .int (nI tn)])), (tb, .inl (cB, 300, .inl tby)), (tl, .inr (4, [.ref tt, .int sz, .int fo0, .int ss0])), (tt, .inl (cI, 35, .inl tr))] zz)) 0 0 (va_A [(rd, .inr (6, [.ref rn, .int pl])), (rn, .inl (cI, 5, .inl nu)), (tx, .inr (8, [.ref tb, .int (nI tn)])), (tb, .inl (cB, 300, .inl tby)), (tl, .inr (4, [.ref tt, .int sz, .int fo0, .int ss0])), (tt, .inl (cI, 35, .inl tr))] zz) := by
  refine Met.ofW (cc := cX6_readAll) (maxL := 5) (ret := (some .int)) (by decide) rfl ?_
  intro p e s m args below meth c s₁ B hml hv
  obtain ⟨rfl, hsz, hP, hK, hD0⟩ := hv
  have hx := B.exec
  have hb := B.bytes
  have hr := B.returns
  have hts := atoms_spec (ws := wsX6_readAll) B.pre
  have hown : s.vm.findClass RX6 = some m.cls := findClass_of_methodNamed B.named
  have hlocks := B.notSynchronized
  have hin6 : ∀ w ∈ u_ws RX6 TX6 2, w ∈ wsX6_readAll := by decide +kernel
  have hin8 : ∀ w ∈ u_ws RX8 TX8 2, w ∈ wsX6_readAll := by decide +kernel
  subst hsz
  have hD := hD0.self (sz := s.heap.size)
  generalize hAe : va_A [(rd, .inr (6, [.ref rn, .int pl])), (rn, .inl (cI, 5, .inl nu)), (tx, .inr (8, [.ref tb, .int (nI tn)])), (tb, .inl (cB, 300, .inl tby)), (tl, .inr (4, [.ref tt, .int sz, .int fo0, .int ss0])), (tt, .inl (cI, 35, .inl tr))] s.heap.size = A at hD ⊢
  have hA : ∀ q : Nat, s.heap.size ≤ q → A q := fun q h => by rw [← hAe]; exact Or.inr h
  have hS : va_S A s.heap s.heap [] := va_S.rf
  have hP : va_P D vwCl [(rd, .inr (6, [.ref rn, .int pl])), (rn, .inl (cI, 5, .inl nu)), (tx, .inr (8, [.ref tb, .int (nI tn)])), (tb, .inl (cB, 300, .inl tby)), (tl, .inr (4, [.ref tt, .int sz, .int fo0, .int ss0])), (tt, .inl (cI, 35, .inl tr))] s.heap := hP
  have hl := lv_entry ([.ref rd, .ref tx, .ref tl]) (n := 5) (Nat.le_of_ble_eq_true rfl)
  rw [lg_entry_eq]
  generalize (lg_sl ([.ref rd, .ref tx, .ref tl]) ++ List.replicate (5 - (lg_sl ([.ref rd, .ref tx, .ref tl])).length) Slot.unset).toArray = ls at hl ⊢
  have hl : lv_has ls 5 [(0, .ref rd), (1, .ref tx), (2, .ref tl)] := hl
  have htn := hTx.1
  have L11 : ∀ (fuel : Nat) (it : Nat) (pk : Nat) (m1 : Nat) (fo : Nat) (se : Nat) (R : Nat → Nat → Nat) (g : Nat → Int32) (tr : Nat → Int32) (hit : it ≤ pk) (hpk3 : pk ≤ tn) (hm7 : m1 ≤ 7) (hR : q_Tr R m1 tr) (hBd : q_Bd R m1) (hfo : fo < 2 ^ m1) (hE : q_fl tn tf = q_fa tn tf (300 - it) pk m1 R fo se) (hf : 300 - it < fuel) (H : Heap) (locs : List Loc) (hP : va_P D vwCl [(rd, .inr (6, [.ref rn, .int (nI pk)])), (rn, .inl (cI, 5, .inl g)), (tx, .inr (8, [.ref tb, .int (nI tn)])), (tb, .inl (cB, 300, .inl tby)), (tl, .inr (4, [.ref tt, .int (nI m1), .int (nI fo), .int (nI se)])), (tt, .inl (cI, 35, .inl tr))] H) (hD : va_D A [(rd, .inr (6, [.ref rn, .int (nI pk)])), (rn, .inl (cI, 5, .inl g)), (tx, .inr (8, [.ref tb, .int (nI tn)])), (tb, .inl (cB, 300, .inl tby)), (tl, .inr (4, [.ref tt, .int (nI m1), .int (nI fo), .int (nI se)])), (tt, .inl (cI, 35, .inl tr))]) (hS : va_S A s.heap H locs) (ls : Array Slot) (hl : lv_has ls 5 [(0, .ref rd), (1, .ref tx), (2, .ref tl), (3, .int (nI it))]), W p l e (headSpec wsX6_readAll ({ frames := 4, cells := 0, slots := 0, locals := 91 } : Room)).room s m ([.ref rd, .ref tx, .ref tl] : List Value).toArray below meth c H locs 0 0 (MQ below (va_Qi (S := (Int32 × (Nat → Int32) × Int32 × Int32 × Int32 × (Nat → Int32))) (fun r u => r = q_oc (q_fl tn tf).1 ∧ ((q_fl tn tf).1 = none → u.2.2.1 = nI (q_fl tn tf).2.1 ∧ u.2.2.2.1 = nI (q_fl tn tf).2.2.2.1 ∧ u.2.2.2.2.1 = nI (q_fl tn tf).2.2.2.2 ∧ q_Tr (q_fl tn tf).2.2.1 (q_fl tn tf).2.1 u.2.2.2.2.2)) (fun u t => va_P D vwCl ((fun u => [(rd, .inr (6, [.ref rn, .int u.1])), (rn, .inl (cI, 5, .inl u.2.1)), (tx, .inr (8, [.ref tb, .int (nI tn)])), (tb, .inl (cB, 300, .inl tby)), (tl, .inr (4, [.ref tt, .int u.2.2.1, .int u.2.2.2.1, .int u.2.2.2.2.1])), (tt, .inl (cI, 35, .inl u.2.2.2.2.2))]) u) t.heap) A) ([.ref rd, .ref tx, .ref tl] : List Value).toArray s 0 0 A) (F0 m 11 ls []) := by
    intro fuel
    induction fuel with
    | zero =>
      intro it pk m1 fo se R g tr hit hpk3 hm7 hR hBd hfo hE hf H locs hP hD hS ls hl
      exact absurd hf (Nat.not_lt_zero _)
    | succ fuel ih11 =>
      intro it pk m1 fo se R g tr hit hpk3 hm7 hR hBd hfo hE hf H locs hP hD hS ls hl
      refine lv_iload_n hx hb dX6_readAll_11 rfl (lv_at hl 3 rfl) ?_
      refine lv_sipush (v := nI 300) hx hb dX6_readAll_12 (by decide) ?_
      refine q_nge (tgt := 53) hx hb dX6_readAll_15 (by decide) (by omega) (by omega) (fun c_15 => ?_) (fun c_15 => ?_)
      · refine lv_bipush (v := (-4 : Int32)) hx hb dX6_readAll_53 (by decide) ?_
        have hfin : q_fl tn tf = (none, m1, R, fo, se) := hE.trans (q_fa_0 (Or.inl (by omega)))
        exact q_mret (S := (Int32 × (Nat → Int32) × Int32 × Int32 × Int32 × (Nat → Int32))) (v := (-4 : Int32)) (w1 := fun u => [(rd, .inr (6, [.ref rn, .int u.1])), (rn, .inl (cI, 5, .inl u.2.1)), (tx, .inr (8, [.ref tb, .int (nI tn)])), (tb, .inl (cB, 300, .inl tby)), (tl, .inr (4, [.ref tt, .int u.2.2.1, .int u.2.2.2.1, .int u.2.2.2.2.1])), (tt, .inl (cI, 35, .inl u.2.2.2.2.2))]) (nI pk, g, nI m1, nI fo, nI se, tr) hx hb hr hlocks (rfl) hP hS dX6_readAll_55 (by exact ⟨by rw [hfin]; rfl, fun _ => by rw [hfin]; exact ⟨rfl, rfl, rfl, hR⟩⟩)
      · refine lv_aload_n hx hb dX6_readAll_18 rfl (lv_at hl 0 rfl) ?_
        refine q_get (ci := 6) (CC := RX6) (T := TX6) (N := 2) (v := .int (nI pk)) hx hb hts hin6 hown hK hP 0 rfl rfl 1 (by decide) (hts (.fieldLink RX6 15 "DearAsMany$Reader" "place" "I") (by decide +kernel)) rfl rfl dX6_readAll_19 ?_
        refine lv_aload_n hx hb dX6_readAll_22 rfl (lv_at hl 1 rfl) ?_
        refine q_get (ci := 8) (CC := RX8) (T := TX8) (N := 2) (v := .int (nI tn)) hx hb hts hin8 hown hK hP 2 rfl rfl 1 (by decide) (hts (.fieldLink RX6 24 "DearAsMany$Text" "length" "I") (by decide +kernel)) rfl rfl dX6_readAll_23 ?_
        refine q_nge (tgt := 53) hx hb dX6_readAll_26 (by decide) (by omega) (by omega) (fun c_26 => ?_) (fun c_26 => ?_)
        · refine lv_bipush (v := (-4 : Int32)) hx hb dX6_readAll_53 (by decide) ?_
          have hfin : q_fl tn tf = (none, m1, R, fo, se) := hE.trans (q_fa_0 (Or.inr (by omega)))
          exact q_mret (S := (Int32 × (Nat → Int32) × Int32 × Int32 × Int32 × (Nat → Int32))) (v := (-4 : Int32)) (w1 := fun u => [(rd, .inr (6, [.ref rn, .int u.1])), (rn, .inl (cI, 5, .inl u.2.1)), (tx, .inr (8, [.ref tb, .int (nI tn)])), (tb, .inl (cB, 300, .inl tby)), (tl, .inr (4, [.ref tt, .int u.2.2.1, .int u.2.2.2.1, .int u.2.2.2.2.1])), (tt, .inl (cI, 35, .inl u.2.2.2.2.2))]) (nI pk, g, nI m1, nI fo, nI se, tr) hx hb hr hlocks (rfl) hP hS dX6_readAll_55 (by exact ⟨by rw [hfin]; rfl, fun _ => by rw [hfin]; exact ⟨rfl, rfl, rfl, hR⟩⟩)
        · refine lv_aload_n hx hb dX6_readAll_29 rfl (lv_at hl 0 rfl) ?_
          refine q_get (ci := 6) (CC := RX6) (T := TX6) (N := 2) (v := .int (nI pk)) hx hb hts hin6 hown hK hP 0 rfl rfl 1 (by decide) (hts (.fieldLink RX6 15 "DearAsMany$Reader" "place" "I") (by decide +kernel)) rfl rfl dX6_readAll_30 ?_
          refine lv_istore (lv' := [(4, .int (nI pk)), (0, .ref rd), (1, .ref tx), (2, .ref tl), (3, .int (nI it))]) hx hb dX6_readAll_33 hl (by decide) rfl (fun ls hl => ?_)
          refine lv_aload_n hx hb dX6_readAll_35 rfl (lv_at hl 1 rfl) ?_
          refine lv_aload_n hx hb dX6_readAll_36 rfl (lv_at hl 2 rfl) ?_
          refine lv_aload_n hx hb dX6_readAll_37 rfl (lv_at hl 3 rfl) ?_
          refine q_vmi (S := (Int32 × (Nat → Int32) × Nat × Nat × Nat × (Nat → Int32))) (w1 := fun u => [(rd, .inr (6, [.ref rn, .int u.1])), (rn, .inl (cI, 5, .inl u.2.1)), (tx, .inr (8, [.ref tb, .int (nI tn)])), (tb, .inl (cB, 300, .inl tby)), (tl, .inr (4, [.ref tt, .int (nI u.2.2.1), .int (nI u.2.2.2.1), .int (nI u.2.2.2.2.1)])), (tt, .inl (cI, 35, .inl u.2.2.2.2.2))]) (w2 := fun u => [(rd, .inr (6, [.ref rn, .int u.1])), (rn, .inl (cI, 5, .inl u.2.1)), (tx, .inr (8, [.ref tb, .int (nI tn)])), (tb, .inl (cB, 300, .inl tby)), (tl, .inr (4, [.ref tt, .int (nI u.2.2.1), .int (nI u.2.2.2.1), .int (nI u.2.2.2.2.1)])), (tt, .inl (cI, 35, .inl u.2.2.2.2.2))]) (As := [.ref tx, .ref tl]) (rest := []) ⟨hx, hb, hml, hown, hts⟩ (c_X6_readItem l (D := D) (cI := cI) (cB := cB) (cZ := cZ) (rd := rd) (rn := rn) (tx := tx) (tb := tb) (tn := tn) (tby := tby) (tf := tf) (tl := tl) (tt := tt) (pk := pk) (m1 := m1) (fo := fo) (se := se) (nu := g) (tr := tr) (R := R) (by first | assumption | exact Nat.zero_le _ | omega) (by omega) (by first | assumption | exact Nat.zero_le _ | omega) (by first | assumption | exact Nat.zero_le _ | omega)) (cwV 2 hts gX6_readAll_X6_readItem rfl rfl rfl (by decide +kernel) ⟨Nat.le_of_ble_eq_true rfl, Nat.le_of_ble_eq_true rfl⟩) hK hP hD hS hA [0, 1, 2, 3, 4, 5] rfl (by decide) 0 6 rfl rfl rfl rfl hl.1 rfl (Nat.le_of_ble_eq_true rfl) dX6_readAll_38 ⟨Nat.zero_le _, Nat.zero_le _⟩ (fun _ => rfl) (fun _ => rfl) (fun _ => rfl) (fun r_38 w H locs hr_38 hP hD hS => ?_)
          have hP : va_P D vwCl [(rd, .inr (6, [.ref rn, .int w.1])), (rn, .inl (cI, 5, .inl w.2.1)), (tx, .inr (8, [.ref tb, .int (nI tn)])), (tb, .inl (cB, 300, .inl tby)), (tl, .inr (4, [.ref tt, .int (nI w.2.2.1), .int (nI w.2.2.2.1), .int (nI w.2.2.2.2.1)])), (tt, .inl (cI, 35, .inl w.2.2.2.2.2))] H := hP
          have hD : va_D A [(rd, .inr (6, [.ref rn, .int w.1])), (rn, .inl (cI, 5, .inl w.2.1)), (tx, .inr (8, [.ref tb, .int (nI tn)])), (tb, .inl (cB, 300, .inl tby)), (tl, .inr (4, [.ref tt, .int (nI w.2.2.1), .int (nI w.2.2.2.1), .int (nI w.2.2.2.2.1)])), (tt, .inl (cI, 35, .inl w.2.2.2.2.2))] := hD
          try dsimp only at hr_38
          obtain ⟨e_r_38, hr_38⟩ := hr_38
          have e_r_38 : bI ((q_item tn tf m1 R fo se pk).isSome) = r_38 := (show r_38 = bI ((q_item tn tf m1 R fo se pk).isSome) from e_r_38).symm
          subst e_r_38
          refine q_bne (tgt := 47) hx hb dX6_readAll_41 (by decide) (fun c_41 => ?_) (fun c_41 => ?_)
          · obtain ⟨y, hy⟩ := q_isS c_41
            obtain ⟨e1, e2, e3, e4, e5⟩ := hr_38 y hy
            have hip := q_item_p hm7 hBd hfo hy
            have hP : va_P D vwCl [(rd, .inr (6, [.ref rn, .int (nI y.2.2.2.2)])), (rn, .inl (cI, 5, .inl w.2.1)), (tx, .inr (8, [.ref tb, .int (nI tn)])), (tb, .inl (cB, 300, .inl tby)), (tl, .inr (4, [.ref tt, .int (nI w.2.2.1), .int (nI w.2.2.2.1), .int (nI w.2.2.2.2.1)])), (tt, .inl (cI, 35, .inl w.2.2.2.2.2))] H := by rw [← show w.1 = (nI y.2.2.2.2) from e1]; exact hP
            have hD : va_D A [(rd, .inr (6, [.ref rn, .int (nI y.2.2.2.2)])), (rn, .inl (cI, 5, .inl w.2.1)), (tx, .inr (8, [.ref tb, .int (nI tn)])), (tb, .inl (cB, 300, .inl tby)), (tl, .inr (4, [.ref tt, .int (nI w.2.2.1), .int (nI w.2.2.2.1), .int (nI w.2.2.2.2.1)])), (tt, .inl (cI, 35, .inl w.2.2.2.2.2))] := q_Dadr (by rfl) hD
            have hP : va_P D vwCl [(rd, .inr (6, [.ref rn, .int (nI y.2.2.2.2)])), (rn, .inl (cI, 5, .inl w.2.1)), (tx, .inr (8, [.ref tb, .int (nI tn)])), (tb, .inl (cB, 300, .inl tby)), (tl, .inr (4, [.ref tt, .int (nI y.1), .int (nI w.2.2.2.1), .int (nI w.2.2.2.2.1)])), (tt, .inl (cI, 35, .inl w.2.2.2.2.2))] H := by rw [← show (nI w.2.2.1) = (nI y.1) from by rw [e2]]; exact hP
            have hD : va_D A [(rd, .inr (6, [.ref rn, .int (nI y.2.2.2.2)])), (rn, .inl (cI, 5, .inl w.2.1)), (tx, .inr (8, [.ref tb, .int (nI tn)])), (tb, .inl (cB, 300, .inl tby)), (tl, .inr (4, [.ref tt, .int (nI y.1), .int (nI w.2.2.2.1), .int (nI w.2.2.2.2.1)])), (tt, .inl (cI, 35, .inl w.2.2.2.2.2))] := q_Dadr (by rfl) hD
            have hP : va_P D vwCl [(rd, .inr (6, [.ref rn, .int (nI y.2.2.2.2)])), (rn, .inl (cI, 5, .inl w.2.1)), (tx, .inr (8, [.ref tb, .int (nI tn)])), (tb, .inl (cB, 300, .inl tby)), (tl, .inr (4, [.ref tt, .int (nI y.1), .int (nI y.2.2.1), .int (nI w.2.2.2.2.1)])), (tt, .inl (cI, 35, .inl w.2.2.2.2.2))] H := by rw [← show (nI w.2.2.2.1) = (nI y.2.2.1) from by rw [e3]]; exact hP
            have hD : va_D A [(rd, .inr (6, [.ref rn, .int (nI y.2.2.2.2)])), (rn, .inl (cI, 5, .inl w.2.1)), (tx, .inr (8, [.ref tb, .int (nI tn)])), (tb, .inl (cB, 300, .inl tby)), (tl, .inr (4, [.ref tt, .int (nI y.1), .int (nI y.2.2.1), .int (nI w.2.2.2.2.1)])), (tt, .inl (cI, 35, .inl w.2.2.2.2.2))] := q_Dadr (by rfl) hD
            have hP : va_P D vwCl [(rd, .inr (6, [.ref rn, .int (nI y.2.2.2.2)])), (rn, .inl (cI, 5, .inl w.2.1)), (tx, .inr (8, [.ref tb, .int (nI tn)])), (tb, .inl (cB, 300, .inl tby)), (tl, .inr (4, [.ref tt, .int (nI y.1), .int (nI y.2.2.1), .int (nI y.2.2.2.1)])), (tt, .inl (cI, 35, .inl w.2.2.2.2.2))] H := by rw [← show (nI w.2.2.2.2.1) = (nI y.2.2.2.1) from by rw [e4]]; exact hP
            have hD : va_D A [(rd, .inr (6, [.ref rn, .int (nI y.2.2.2.2)])), (rn, .inl (cI, 5, .inl w.2.1)), (tx, .inr (8, [.ref tb, .int (nI tn)])), (tb, .inl (cB, 300, .inl tby)), (tl, .inr (4, [.ref tt, .int (nI y.1), .int (nI y.2.2.1), .int (nI y.2.2.2.1)])), (tt, .inl (cI, 35, .inl w.2.2.2.2.2))] := q_Dadr (by rfl) hD
            refine lv_iinc (v := nI (it + 1)) (lv' := [(3, .int (nI (it + 1))), (4, .int (nI pk)), (0, .ref rd), (1, .ref tx), (2, .ref tl)]) hx hb dX6_readAll_47 hl (k := 4) rfl (nI_add _ 1) (by decide) rfl (fun ls hl => ?_)
            refine lv_goto (tgt := 11) hx hb dX6_readAll_50 (by decide) ?_
            exact ih11 (it + 1) y.2.2.2.2 y.1 y.2.2.1 y.2.2.2.1 y.2.1 w.2.1 w.2.2.2.2.2 (by omega) (hip.1.2) (hip.2.1) (e5) (hip.2.2.1) (hip.2.2.2) (hE.trans (by rw [show 300 - it = (300 - (it + 1)) + 1 from by omega]; exact q_fa_S (by omega) hy)) (by omega) _ _ hP hD hS ls (lv_sub hl [2, 3, 4, 0] rfl)
          · refine lv_iload hx hb dX6_readAll_44 (lv_at hl 0 rfl) ?_
            have hfin : q_fl tn tf = (some pk, m1, R, fo, se) := hE.trans (by rw [show 300 - it = (300 - it - 1) + 1 from by omega]; exact q_fa_N (by omega) (q_isN c_41))
            exact q_mret (S := (Int32 × (Nat → Int32) × Int32 × Int32 × Int32 × (Nat → Int32))) (v := nI pk) (w1 := fun u => [(rd, .inr (6, [.ref rn, .int u.1])), (rn, .inl (cI, 5, .inl u.2.1)), (tx, .inr (8, [.ref tb, .int (nI tn)])), (tb, .inl (cB, 300, .inl tby)), (tl, .inr (4, [.ref tt, .int u.2.2.1, .int u.2.2.2.1, .int u.2.2.2.2.1])), (tt, .inl (cI, 35, .inl u.2.2.2.2.2))]) (w.1, w.2.1, nI w.2.2.1, nI w.2.2.2.1, nI w.2.2.2.2.1, w.2.2.2.2.2) hx hb hr hlocks (rfl) hP hS dX6_readAll_46 (by exact ⟨by rw [hfin]; rfl, fun z => by rw [hfin] at z; cases z⟩)
  refine lv_aload_n hx hb dX6_readAll_0 rfl (lv_at hl 2 rfl) ?_
  refine q_vmv (S := Unit) (w1 := fun _ => [(tl, .inr (4, [.ref tt, .int (nI 0), .int (nI 0), .int (nI 50)]))]) (w2 := fun _ => [(rd, .inr (6, [.ref rn, .int pl])), (rn, .inl (cI, 5, .inl nu)), (tx, .inr (8, [.ref tb, .int (nI tn)])), (tb, .inl (cB, 300, .inl tby)), (tl, .inr (4, [.ref tt, .int (nI 0), .int (nI 0), .int (nI 50)])), (tt, .inl (cI, 35, .inl tr))]) (As := []) (rest := []) ⟨hx, hb, hml, hown, hts⟩ (c_X4_clear l (D := D) (cI := cI) (cB := cB) (cZ := cZ) (hp := tl) (ht := tt) (sz := sz) (fo := fo0) (ss := ss0) ) (cwV 0 hts gX6_readAll_X4_clear rfl rfl rfl (by decide +kernel) ⟨Nat.le_of_ble_eq_true rfl, Nat.le_of_ble_eq_true rfl⟩) hK hP hD hS hA [4] rfl (by decide) 4 4 rfl rfl rfl rfl hl.1 rfl (Nat.le_of_ble_eq_true rfl) dX6_readAll_1 ⟨Nat.zero_le _, Nat.zero_le _⟩ (fun _ => rfl) (fun _ => rfl) (fun _ => rfl) (fun _ H locs hr_1 hP hD hS => ?_)
  have hP : va_P D vwCl [(rd, .inr (6, [.ref rn, .int pl])), (rn, .inl (cI, 5, .inl nu)), (tx, .inr (8, [.ref tb, .int (nI tn)])), (tb, .inl (cB, 300, .inl tby)), (tl, .inr (4, [.ref tt, .int (nI 0), .int (nI 0), .int (nI 50)])), (tt, .inl (cI, 35, .inl tr))] H := hP
  have hD : va_D A [(rd, .inr (6, [.ref rn, .int pl])), (rn, .inl (cI, 5, .inl nu)), (tx, .inr (8, [.ref tb, .int (nI tn)])), (tb, .inl (cB, 300, .inl tby)), (tl, .inr (4, [.ref tt, .int (nI 0), .int (nI 0), .int (nI 50)])), (tt, .inl (cI, 35, .inl tr))] := hD
  refine lv_aload_n hx hb dX6_readAll_4 rfl (lv_at hl 0 rfl) ?_
  refine lv_iconst (v := nI 0) hx hb dX6_readAll_5 (by decide) ?_
  refine q_put (ci := 6) (CC := RX6) (T := TX6) (N := 2) (w2 := [(rd, .inr (6, [.ref rn, .int (nI 0)])), (rn, .inl (cI, 5, .inl nu)), (tx, .inr (8, [.ref tb, .int (nI tn)])), (tb, .inl (cB, 300, .inl tby)), (tl, .inr (4, [.ref tt, .int (nI 0), .int (nI 0), .int (nI 50)])), (tt, .inl (cI, 35, .inl tr))]) hx hb hts hin6 tyX6 tyX6_ok nmX6 hown hK hP hD hS 0 rfl rfl 1 (by decide) (hts (.fieldLink RX6 15 "DearAsMany$Reader" "place" "I") (by decide +kernel)) rfl rfl rfl (Nat.le_of_ble_eq_true rfl) dX6_readAll_6 rfl (fun H locs hP hD hS => ?_)
  refine lv_iconst (v := nI 0) hx hb dX6_readAll_9 (by decide) ?_
  refine lv_istore_n (lv' := [(3, .int (nI 0)), (0, .ref rd), (1, .ref tx), (2, .ref tl)]) hx hb dX6_readAll_10 rfl hl (by decide) rfl (fun ls hl => ?_)
  exact L11 _ 0 0 0 0 50 (fun _ _ => 0) nu tr (by first | assumption | exact Nat.zero_le _ | omega) (Nat.zero_le _) (by first | assumption | exact Nat.zero_le _ | omega) (fun i hi => absurd hi (Nat.not_lt_zero _)) (q_Bd0) (by decide) (rfl) (Nat.lt_succ_self _) _ _ hP hD hS ls (lv_sub hl [1, 2, 3, 0] rfl)

set_option maxHeartbeats 4000000 in
set_option maxRecDepth 100000 in
theorem c_X3_open (l : Launch) {D : va_G} {cI cB cZ : ClassId} {hm : Nat} {hp : Nat} {hh : Nat} {ht : Nat} {tl : Nat} {tt : Nat} {n : Nat} {fo : Int32} {ss : Int32} {sz : Int32} {fo0 : Int32} {ss0 : Int32} {tr : Nat → Int32} {hom : Nat → Int32} {tr2 : Nat → Int32} {T : Nat → Nat → Nat} {zz : Nat} (hT2 : q_Tr T n tr2) (hB : q_Bd T n) (h0 : hom 0 = nI 0) : Met l yX3_open wsX3_open ({ frames := 2, cells := 0, slots := 0, locals := 44 } : Room) (va_Pc [.ref hm, .ref tl] (q_M D (q_tys cI cB cZ) [(hm, .inr (3, [.ref hp, .ref hh])), (hp, .inr (4, [.ref ht, .int sz, .int fo0, .int ss0])), (ht, .inl (cI, 35, .inl tr)), (hh, .inl (cI, 128, .inl hom)), (tl, .inr (4, [.ref tt, .int (nI n), .int fo, .int ss])), (tt, .inl (cI, 35, .inl tr2))] zz)) (va_Qv (S := ((Nat → Int32) × (Nat → Int32))) (fun u => q_Tr T n u.1 ∧ q_Hm T n u.2) (fun u t => va_P D vwCl ((fun u => [(hm, .inr (3, [.ref hp, .ref hh])), (hp, .inr (4, [.ref ht, .int (nI n), .int fo, .int ss])), (ht, .inl (cI, 35, .inl u.1)), (hh, .inl (cI, 128, .inl u.2)), (tl, .inr (4, [.ref tt, .int (nI n), .int fo, .int ss])), (tt, .inl (cI, 35, .inl tr2))]) u) t.heap) (va_A [(hm, .inr (3, [.ref hp, .ref hh])), (hp, .inr (4, [.ref ht, .int sz, .int fo0, .int ss0])), (ht, .inl (cI, 35, .inl tr)), (hh, .inl (cI, 128, .inl hom)), (tl, .inr (4, [.ref tt, .int (nI n), .int fo, .int ss])), (tt, .inl (cI, 35, .inl tr2))] zz)) 0 0 (va_A [(hm, .inr (3, [.ref hp, .ref hh])), (hp, .inr (4, [.ref ht, .int sz, .int fo0, .int ss0])), (ht, .inl (cI, 35, .inl tr)), (hh, .inl (cI, 128, .inl hom)), (tl, .inr (4, [.ref tt, .int (nI n), .int fo, .int ss])), (tt, .inl (cI, 35, .inl tr2))] zz) := by
  refine Met.ofW (cc := cX3_open) (maxL := 5) (ret := none) (by decide) rfl ?_
  intro p e s m args below meth c s₁ B hml hv
  obtain ⟨rfl, hsz, hP, hK, hD0⟩ := hv
  have hx := B.exec
  have hb := B.bytes
  have hr := B.returns
  have hts := atoms_spec (ws := wsX3_open) B.pre
  have hown : s.vm.findClass RX3 = some m.cls := findClass_of_methodNamed B.named
  have hlocks := B.notSynchronized
  have hin3 : ∀ w ∈ u_ws RX3 TX3 2, w ∈ wsX3_open := by decide +kernel
  have hin4 : ∀ w ∈ u_ws RX4 TX4 4, w ∈ wsX3_open := by decide +kernel
  subst hsz
  have hD := hD0.self (sz := s.heap.size)
  generalize hAe : va_A [(hm, .inr (3, [.ref hp, .ref hh])), (hp, .inr (4, [.ref ht, .int sz, .int fo0, .int ss0])), (ht, .inl (cI, 35, .inl tr)), (hh, .inl (cI, 128, .inl hom)), (tl, .inr (4, [.ref tt, .int (nI n), .int fo, .int ss])), (tt, .inl (cI, 35, .inl tr2))] s.heap.size = A at hD ⊢
  have hA : ∀ q : Nat, s.heap.size ≤ q → A q := fun q h => by rw [← hAe]; exact Or.inr h
  have hS : va_S A s.heap s.heap [] := va_S.rf
  have hP : va_P D vwCl [(hm, .inr (3, [.ref hp, .ref hh])), (hp, .inr (4, [.ref ht, .int sz, .int fo0, .int ss0])), (ht, .inl (cI, 35, .inl tr)), (hh, .inl (cI, 128, .inl hom)), (tl, .inr (4, [.ref tt, .int (nI n), .int fo, .int ss])), (tt, .inl (cI, 35, .inl tr2))] s.heap := hP
  have hl := lv_entry ([.ref hm, .ref tl]) (n := 5) (Nat.le_of_ble_eq_true rfl)
  rw [lg_entry_eq]
  generalize (lg_sl ([.ref hm, .ref tl]) ++ List.replicate (5 - (lg_sl ([.ref hm, .ref tl])).length) Slot.unset).toArray = ls at hl ⊢
  have hl : lv_has ls 5 [(0, .ref hm), (1, .ref tl)] := hl
  have hn7 := hB.1
  have L10 : ∀ (fuel : Nat) (i : Nat) (tc : Nat → Int32) (g : Nat → Int32) (hi : i ≤ n) (hTc : q_Tr T n tc) (hg : ∀ S, S < 2 ^ i → g S = nI (q_hm T S i)) (hf : n - i < fuel) (H : Heap) (locs : List Loc) (hP : va_P D vwCl [(hm, .inr (3, [.ref hp, .ref hh])), (hp, .inr (4, [.ref ht, .int (nI n), .int fo, .int ss])), (ht, .inl (cI, 35, .inl tc)), (hh, .inl (cI, 128, .inl g)), (tl, .inr (4, [.ref tt, .int (nI n), .int fo, .int ss])), (tt, .inl (cI, 35, .inl tr2))] H) (hD : va_D A [(hm, .inr (3, [.ref hp, .ref hh])), (hp, .inr (4, [.ref ht, .int (nI n), .int fo, .int ss])), (ht, .inl (cI, 35, .inl tc)), (hh, .inl (cI, 128, .inl g)), (tl, .inr (4, [.ref tt, .int (nI n), .int fo, .int ss])), (tt, .inl (cI, 35, .inl tr2))]) (hS : va_S A s.heap H locs) (ls : Array Slot) (hl : lv_has ls 5 [(0, .ref hm), (1, .ref tl), (2, .int (nI i))]), W p l e (headSpec wsX3_open ({ frames := 2, cells := 0, slots := 0, locals := 44 } : Room)).room s m ([.ref hm, .ref tl] : List Value).toArray below meth c H locs 0 0 (MQ below (va_Qv (S := ((Nat → Int32) × (Nat → Int32))) (fun u => q_Tr T n u.1 ∧ q_Hm T n u.2) (fun u t => va_P D vwCl ((fun u => [(hm, .inr (3, [.ref hp, .ref hh])), (hp, .inr (4, [.ref ht, .int (nI n), .int fo, .int ss])), (ht, .inl (cI, 35, .inl u.1)), (hh, .inl (cI, 128, .inl u.2)), (tl, .inr (4, [.ref tt, .int (nI n), .int fo, .int ss])), (tt, .inl (cI, 35, .inl tr2))]) u) t.heap) A) ([.ref hm, .ref tl] : List Value).toArray s 0 0 A) (F0 m 10 ls []) := by
    intro fuel
    induction fuel with
    | zero =>
      intro i tc g hi hTc hg hf H locs hP hD hS ls hl
      exact absurd hf (Nat.not_lt_zero _)
    | succ fuel ih10 =>
      intro i tc g hi hTc hg hf H locs hP hD hS ls hl
      have L37 : ∀ (fuel : Nat) (sv : Nat) (g2 : Nat → Int32) (hin : i < n) (hs : sv ≤ 2 ^ i) (hg2 : ∀ S, S < 2 ^ i + sv → g2 S = nI (q_hm T S (i + 1))) (hf : 2 ^ i - sv < fuel) (H : Heap) (locs : List Loc) (hP : va_P D vwCl [(hm, .inr (3, [.ref hp, .ref hh])), (hp, .inr (4, [.ref ht, .int (nI n), .int fo, .int ss])), (ht, .inl (cI, 35, .inl tc)), (hh, .inl (cI, 128, .inl g2)), (tl, .inr (4, [.ref tt, .int (nI n), .int fo, .int ss])), (tt, .inl (cI, 35, .inl tr2))] H) (hD : va_D A [(hm, .inr (3, [.ref hp, .ref hh])), (hp, .inr (4, [.ref ht, .int (nI n), .int fo, .int ss])), (ht, .inl (cI, 35, .inl tc)), (hh, .inl (cI, 128, .inl g2)), (tl, .inr (4, [.ref tt, .int (nI n), .int fo, .int ss])), (tt, .inl (cI, 35, .inl tr2))]) (hS : va_S A s.heap H locs) (ls : Array Slot) (hl : lv_has ls 5 [(0, .ref hm), (1, .ref tl), (2, .int (nI i)), (3, .int (nI (2 ^ T i 3))), (4, .int (nI sv))]), W p l e (headSpec wsX3_open ({ frames := 2, cells := 0, slots := 0, locals := 44 } : Room)).room s m ([.ref hm, .ref tl] : List Value).toArray below meth c H locs 0 0 (MQ below (va_Qv (S := ((Nat → Int32) × (Nat → Int32))) (fun u => q_Tr T n u.1 ∧ q_Hm T n u.2) (fun u t => va_P D vwCl ((fun u => [(hm, .inr (3, [.ref hp, .ref hh])), (hp, .inr (4, [.ref ht, .int (nI n), .int fo, .int ss])), (ht, .inl (cI, 35, .inl u.1)), (hh, .inl (cI, 128, .inl u.2)), (tl, .inr (4, [.ref tt, .int (nI n), .int fo, .int ss])), (tt, .inl (cI, 35, .inl tr2))]) u) t.heap) A) ([.ref hm, .ref tl] : List Value).toArray s 0 0 A) (F0 m 37 ls []) := by
        intro fuel
        induction fuel with
        | zero =>
          intro sv g2 hin hs hg2 hf H locs hP hD hS ls hl
          exact absurd hf (Nat.not_lt_zero _)
        | succ fuel ih37 =>
          intro sv g2 hin hs hg2 hf H locs hP hD hS ls hl
          have hp3 : 2 ^ i * 2 ≤ 128 := by rw [← Nat.pow_succ]; exact q_p2 (by omega)
          refine lv_iload hx hb dX3_open_37 (lv_at hl 4 rfl) ?_
          refine lv_iload_n hx hb dX3_open_39 rfl (lv_at hl 2 rfl) ?_
          refine q_ni (As := [.int (nI i)]) (rest := [.int (nI sv)]) ⟨hx, hb, hml, hown, hts⟩ (c_X9_bit l (D := D) (cI := cI) (cB := cB) (cZ := cZ) (i := i) (by omega)) ⟨va_cnB 1 hts gX3_open_X9_bit_n34 rfl rfl rfl (hK.2.at 8 rfl) (hts (.initialized RX9) (by decide +kernel)) (by decide +kernel) ⟨Nat.le_of_ble_eq_true rfl, Nat.le_of_ble_eq_true rfl⟩, hts (.static yX9_bit) (by decide +kernel), trivial⟩ hK hP [] rfl rfl hl.1 rfl (Nat.le_of_ble_eq_true rfl) dX3_open_40 ⟨Nat.zero_le _, Nat.zero_le _⟩ (fun r_40 hr_40 => ?_)
          have hr_40 : nI (2 ^ i) = r_40 := (show r_40 = nI (2 ^ i) from hr_40).symm
          subst hr_40
          refine q_nge (tgt := 77) hx hb dX3_open_43 (by decide) (by omega) (by omega) (fun c_43 => ?_) (fun c_43 => ?_)
          · refine lv_iinc (v := nI (i + 1)) (lv' := [(2, .int (nI (i + 1))), (0, .ref hm), (1, .ref tl), (3, .int (nI (2 ^ T i 3))), (4, .int (nI sv))]) hx hb dX3_open_77 hl (k := 2) rfl (nI_add _ 1) (by decide) rfl (fun ls hl => ?_)
            refine lv_goto (tgt := 10) hx hb dX3_open_80 (by decide) ?_
            exact ih10 (i + 1) tc g2 (by omega) (by first | assumption | exact Nat.zero_le _ | omega) (fun S hS => hg2 S (by rw [Nat.pow_succ] at hS; omega)) (by omega) _ _ hP hD hS ls (lv_sub hl [1, 2, 0] rfl)
          · refine lv_aload_n hx hb dX3_open_46 rfl (lv_at hl 0 rfl) ?_
            refine q_get (ci := 3) (CC := RX3) (T := TX3) (N := 2) (v := .ref hh) hx hb hts hin3 hown hK hP 0 rfl rfl 1 (by decide) (hts (.fieldLink RX3 18 "DearAsMany$Market" "homes" "[I") (by decide +kernel)) rfl rfl dX3_open_47 ?_
            refine lv_iload hx hb dX3_open_50 (lv_at hl 4 rfl) ?_
            refine lv_iload_n hx hb dX3_open_52 rfl (lv_at hl 2 rfl) ?_
            refine q_ni (As := [.int (nI i)]) (rest := [.int (nI sv), .ref hh]) ⟨hx, hb, hml, hown, hts⟩ (c_X9_bit l (D := D) (cI := cI) (cB := cB) (cZ := cZ) (i := i) (by omega)) ⟨va_cnB 1 hts gX3_open_X9_bit_n34 rfl rfl rfl (hK.2.at 8 rfl) (hts (.initialized RX9) (by decide +kernel)) (by decide +kernel) ⟨Nat.le_of_ble_eq_true rfl, Nat.le_of_ble_eq_true rfl⟩, hts (.static yX9_bit) (by decide +kernel), trivial⟩ hK hP [] rfl rfl hl.1 rfl (Nat.le_of_ble_eq_true rfl) dX3_open_53 ⟨Nat.zero_le _, Nat.zero_le _⟩ (fun r_53 hr_53 => ?_)
            have hr_53 : nI (2 ^ i) = r_53 := (show r_53 = nI (2 ^ i) from hr_53).symm
            subst hr_53
            refine q_ior (v := nI (2 ^ i + sv)) hx hb dX3_open_56 ((q_or _ _).trans (congrArg nI (q_or_add (by omega)))) ?_
            refine lv_aload_n hx hb dX3_open_57 rfl (lv_at hl 0 rfl) ?_
            refine q_get (ci := 3) (CC := RX3) (T := TX3) (N := 2) (v := .ref hh) hx hb hts hin3 hown hK hP 0 rfl rfl 1 (by decide) (hts (.fieldLink RX3 18 "DearAsMany$Market" "homes" "[I") (by decide +kernel)) rfl rfl dX3_open_58 ?_
            refine lv_iload hx hb dX3_open_61 (lv_at hl 4 rfl) ?_
            refine q_ni (As := [.ref hh, .int (nI sv)]) (rest := [.int (nI (2 ^ i + sv)), .ref hh]) ⟨hx, hb, hml, hown, hts⟩ (c_X9_at l (D := D) (cI := cI) (cB := cB) (cZ := cZ) (a := hh) (N := 128) (k := sv) (f := g2) (by omega) (by decide)) ⟨va_cnB 2 hts gX3_open_X9_at_n38 rfl rfl rfl (hK.2.at 9 rfl) (hts (.initialized RX9) (by decide +kernel)) (by decide +kernel) ⟨Nat.le_of_ble_eq_true rfl, Nat.le_of_ble_eq_true rfl⟩, hts (.static yX9_at) (by decide +kernel), trivial⟩ hK hP [3] rfl rfl hl.1 rfl (Nat.le_of_ble_eq_true rfl) dX3_open_63 ⟨Nat.zero_le _, Nat.zero_le _⟩ (fun r_63 hr_63 => ?_)
            have hr_63 : nI (q_hm T sv i) = r_63 := (Eq.trans (show r_63 = g2 sv from hr_63) (by rw [hg2 sv (by omega), q_hm_lo (by omega)])).symm
            subst hr_63
            refine lv_iload_n hx hb dX3_open_66 rfl (lv_at hl 3 rfl) ?_
            refine q_ior (v := nI (q_hm T (2 ^ i + sv) (i + 1))) hx hb dX3_open_67 ((q_or _ _).trans (congrArg nI (q_hm_hi (by omega)).symm)) ?_
            refine q_nmv (S := Unit) (w1 := fun _ => [(hh, .inl (cI, 128, .inl (upd g2 (2 ^ i + sv) (nI (q_hm T (2 ^ i + sv) (i + 1))))))]) (w2 := fun _ => [(hm, .inr (3, [.ref hp, .ref hh])), (hp, .inr (4, [.ref ht, .int (nI n), .int fo, .int ss])), (ht, .inl (cI, 35, .inl tc)), (hh, .inl (cI, 128, .inl (upd g2 (2 ^ i + sv) (nI (q_hm T (2 ^ i + sv) (i + 1)))))), (tl, .inr (4, [.ref tt, .int (nI n), .int fo, .int ss])), (tt, .inl (cI, 35, .inl tr2))]) (As := [.ref hh, .int (nI (2 ^ i + sv)), .int (nI (q_hm T (2 ^ i + sv) (i + 1)))]) (rest := []) ⟨hx, hb, hml, hown, hts⟩ (c_X9_put l (D := D) (cI := cI) (cB := cB) (cZ := cZ) (a := hh) (N := 128) (k := 2 ^ i + sv) (f := g2) (x := nI (q_hm T (2 ^ i + sv) (i + 1))) (by omega) (by decide)) ⟨va_cnB 3 hts gX3_open_X9_put_n42 rfl rfl rfl (hK.2.at 10 rfl) (hts (.initialized RX9) (by decide +kernel)) (by decide +kernel) ⟨Nat.le_of_ble_eq_true rfl, Nat.le_of_ble_eq_true rfl⟩, hts (.static yX9_put) (by decide +kernel), trivial⟩ hK hP hD hS hA [3] rfl (by decide) rfl hl.1 rfl (Nat.le_of_ble_eq_true rfl) dX3_open_68 ⟨Nat.zero_le _, Nat.zero_le _⟩ (fun _ => rfl) (fun _ => rfl) (fun _ => rfl) (fun _ H locs hr_68 hP hD hS => ?_)
            have hP : va_P D vwCl [(hm, .inr (3, [.ref hp, .ref hh])), (hp, .inr (4, [.ref ht, .int (nI n), .int fo, .int ss])), (ht, .inl (cI, 35, .inl tc)), (hh, .inl (cI, 128, .inl (upd g2 (2 ^ i + sv) (nI (q_hm T (2 ^ i + sv) (i + 1)))))), (tl, .inr (4, [.ref tt, .int (nI n), .int fo, .int ss])), (tt, .inl (cI, 35, .inl tr2))] H := hP
            have hD : va_D A [(hm, .inr (3, [.ref hp, .ref hh])), (hp, .inr (4, [.ref ht, .int (nI n), .int fo, .int ss])), (ht, .inl (cI, 35, .inl tc)), (hh, .inl (cI, 128, .inl (upd g2 (2 ^ i + sv) (nI (q_hm T (2 ^ i + sv) (i + 1)))))), (tl, .inr (4, [.ref tt, .int (nI n), .int fo, .int ss])), (tt, .inl (cI, 35, .inl tr2))] := hD
            refine lv_iinc (v := nI (sv + 1)) (lv' := [(4, .int (nI (sv + 1))), (0, .ref hm), (1, .ref tl), (2, .int (nI i)), (3, .int (nI (2 ^ T i 3)))]) hx hb dX3_open_71 hl (k := 4) rfl (nI_add _ 1) (by decide) rfl (fun ls hl => ?_)
            refine lv_goto (tgt := 37) hx hb dX3_open_74 (by decide) ?_
            exact ih37 (sv + 1) (upd g2 (2 ^ i + sv) (nI (q_hm T (2 ^ i + sv) (i + 1)))) (by first | assumption | exact Nat.zero_le _ | omega) (by omega) (q_upd_lt (fun S => nI (q_hm T S (i + 1))) hg2) (by omega) _ _ hP hD hS ls (lv_sub hl [1, 2, 3, 4, 0] rfl)
      refine lv_iload_n hx hb dX3_open_10 rfl (lv_at hl 2 rfl) ?_
      refine lv_aload_n hx hb dX3_open_11 rfl (lv_at hl 0 rfl) ?_
      refine q_get (ci := 3) (CC := RX3) (T := TX3) (N := 2) (v := .ref hp) hx hb hts hin3 hown hK hP 0 rfl rfl 0 (by decide) (hts (.fieldLink RX3 12 "DearAsMany$Market" "people" "LDearAsMany$People;") (by decide +kernel)) rfl rfl dX3_open_12 ?_
      refine q_get (ci := 4) (CC := RX4) (T := TX4) (N := 4) (v := .int (nI n)) hx hb hts hin4 hown hK hP 1 rfl rfl 1 (by decide) (hts (.fieldLink RX3 26 "DearAsMany$People" "size" "I") (by decide +kernel)) rfl rfl dX3_open_15 ?_
      refine q_nge (tgt := 83) hx hb dX3_open_18 (by decide) (by omega) (by omega) (fun c_18 => ?_) (fun c_18 => ?_)
      · exact q_mretv (S := ((Nat → Int32) × (Nat → Int32))) (w1 := fun u => [(hm, .inr (3, [.ref hp, .ref hh])), (hp, .inr (4, [.ref ht, .int (nI n), .int fo, .int ss])), (ht, .inl (cI, 35, .inl u.1)), (hh, .inl (cI, 128, .inl u.2)), (tl, .inr (4, [.ref tt, .int (nI n), .int fo, .int ss])), (tt, .inl (cI, 35, .inl tr2))]) (tc, g) hx hb hr hlocks hP hS dX3_open_83 (by exact ⟨hTc, fun S hS => by rw [show n = i from by omega] at hS ⊢; exact hg S hS⟩)
      · refine lv_aload_n hx hb dX3_open_21 rfl (lv_at hl 0 rfl) ?_
        refine q_get (ci := 3) (CC := RX3) (T := TX3) (N := 2) (v := .ref hp) hx hb hts hin3 hown hK hP 0 rfl rfl 0 (by decide) (hts (.fieldLink RX3 12 "DearAsMany$Market" "people" "LDearAsMany$People;") (by decide +kernel)) rfl rfl dX3_open_22 ?_
        refine lv_iload_n hx hb dX3_open_25 rfl (lv_at hl 2 rfl) ?_
        refine lv_iconst (v := nI 3) hx hb dX3_open_26 (by decide) ?_
        refine q_vi (As := [.int (nI i), .int (nI 3)]) (rest := []) ⟨hx, hb, hml, hown, hts⟩ (c_X4_trait l (D := D) (cI := cI) (cB := cB) (cZ := cZ) (hp := hp) (ht := ht) (i := i) (k := 3) (sz := nI n) (fo := fo) (ss := ss) (tr := tc) (by omega) (by decide)) (cwV 2 hts gX3_open_X4_trait rfl rfl rfl (by decide +kernel) ⟨Nat.le_of_ble_eq_true rfl, Nat.le_of_ble_eq_true rfl⟩) hK hP [1, 2] rfl 1 4 rfl rfl rfl rfl hl.1 rfl (Nat.le_of_ble_eq_true rfl) dX3_open_27 ⟨Nat.zero_le _, Nat.zero_le _⟩ (fun r_27 hr_27 => ?_)
        have hr_27 : nI (T i 3) = r_27 := (Eq.trans (show r_27 = tc (i * 5 + 3) from hr_27) (hTc i (by omega) 3 (by decide))).symm
        subst hr_27
        refine q_ni (As := [.int (nI (T i 3))]) (rest := []) ⟨hx, hb, hml, hown, hts⟩ (c_X9_bit l (D := D) (cI := cI) (cB := cB) (cZ := cZ) (i := T i 3) (by have := (hB.2 i (by omega)).2.2.2.1; omega)) ⟨va_cnB 1 hts gX3_open_X9_bit_n34 rfl rfl rfl (hK.2.at 8 rfl) (hts (.initialized RX9) (by decide +kernel)) (by decide +kernel) ⟨Nat.le_of_ble_eq_true rfl, Nat.le_of_ble_eq_true rfl⟩, hts (.static yX9_bit) (by decide +kernel), trivial⟩ hK hP [] rfl rfl hl.1 rfl (Nat.le_of_ble_eq_true rfl) dX3_open_30 ⟨Nat.zero_le _, Nat.zero_le _⟩ (fun r_30 hr_30 => ?_)
        have hr_30 : nI (2 ^ (T i 3)) = r_30 := (show r_30 = nI (2 ^ (T i 3)) from hr_30).symm
        subst hr_30
        refine lv_istore_n (lv' := [(3, .int (nI (2 ^ (T i 3)))), (0, .ref hm), (1, .ref tl), (2, .int (nI i))]) hx hb dX3_open_33 rfl hl (by decide) rfl (fun ls hl => ?_)
        refine lv_iconst (v := nI 0) hx hb dX3_open_34 (by decide) ?_
        refine lv_istore (lv' := [(4, .int (nI 0)), (3, .int (nI (2 ^ (T i 3)))), (0, .ref hm), (1, .ref tl), (2, .int (nI i))]) hx hb dX3_open_35 hl (by decide) rfl (fun ls hl => ?_)
        exact L37 _ 0 g (by omega) (Nat.zero_le _) (fun S hS => by rw [q_hm_lo (by omega)]; exact hg S (by omega)) (Nat.lt_succ_self _) _ _ hP hD hS ls (lv_sub hl [2, 3, 4, 1, 0] rfl)
  refine lv_aload_n hx hb dX3_open_0 rfl (lv_at hl 0 rfl) ?_
  refine q_get (ci := 3) (CC := RX3) (T := TX3) (N := 2) (v := .ref hp) hx hb hts hin3 hown hK hP 0 rfl rfl 0 (by decide) (hts (.fieldLink RX3 12 "DearAsMany$Market" "people" "LDearAsMany$People;") (by decide +kernel)) rfl rfl dX3_open_1 ?_
  refine lv_aload_n hx hb dX3_open_4 rfl (lv_at hl 1 rfl) ?_
  refine q_vmv (S := (Nat → Int32)) (w1 := fun u => [(hp, .inr (4, [.ref ht, .int (nI n), .int fo, .int ss])), (ht, .inl (cI, 35, .inl u)), (tl, .inr (4, [.ref tt, .int (nI n), .int fo, .int ss])), (tt, .inl (cI, 35, .inl tr2))]) (w2 := fun u => [(hm, .inr (3, [.ref hp, .ref hh])), (hp, .inr (4, [.ref ht, .int (nI n), .int fo, .int ss])), (ht, .inl (cI, 35, .inl u)), (hh, .inl (cI, 128, .inl hom)), (tl, .inr (4, [.ref tt, .int (nI n), .int fo, .int ss])), (tt, .inl (cI, 35, .inl tr2))]) (As := [.ref tl]) (rest := []) ⟨hx, hb, hml, hown, hts⟩ (c_X4_copy l (D := D) (cI := cI) (cB := cB) (cZ := cZ) (hp := hp) (ht := ht) (tl := tl) (tt := tt) (sz := sz) (fo := fo0) (ss := ss0) (sz2 := nI n) (fo2 := fo) (ss2 := ss) (tr := tr) (tr2 := tr2) ) (cwV 1 hts gX3_open_X4_copy rfl rfl rfl (by decide +kernel) ⟨Nat.le_of_ble_eq_true rfl, Nat.le_of_ble_eq_true rfl⟩) hK hP hD hS hA [1, 2, 4, 5] rfl (by decide) 1 4 rfl rfl rfl rfl hl.1 rfl (Nat.le_of_ble_eq_true rfl) dX3_open_5 ⟨Nat.zero_le _, Nat.zero_le _⟩ (fun _ => rfl) (fun _ => rfl) (fun _ => rfl) (fun tc H locs hr_5 hP hD hS => ?_)
  have hP : va_P D vwCl [(hm, .inr (3, [.ref hp, .ref hh])), (hp, .inr (4, [.ref ht, .int (nI n), .int fo, .int ss])), (ht, .inl (cI, 35, .inl tc)), (hh, .inl (cI, 128, .inl hom)), (tl, .inr (4, [.ref tt, .int (nI n), .int fo, .int ss])), (tt, .inl (cI, 35, .inl tr2))] H := hP
  have hD : va_D A [(hm, .inr (3, [.ref hp, .ref hh])), (hp, .inr (4, [.ref ht, .int (nI n), .int fo, .int ss])), (ht, .inl (cI, 35, .inl tc)), (hh, .inl (cI, 128, .inl hom)), (tl, .inr (4, [.ref tt, .int (nI n), .int fo, .int ss])), (tt, .inl (cI, 35, .inl tr2))] := hD
  try dsimp only at hr_5
  refine lv_iconst (v := nI 0) hx hb dX3_open_8 (by decide) ?_
  refine lv_istore_n (lv' := [(2, .int (nI 0)), (0, .ref hm), (1, .ref tl)]) hx hb dX3_open_9 rfl hl (by decide) rfl (fun ls hl => ?_)
  exact L10 _ 0 tc hom (Nat.zero_le _) (fun i hi k hk => (hr_5 _ (by omega)).trans (hT2 i hi k hk)) (fun S hS => by rw [show S = 0 from by simpa using hS]; exact h0) (Nat.lt_succ_self _) _ _ hP hD hS ls (lv_sub hl [1, 2, 0] rfl)

set_option maxHeartbeats 4000000 in
set_option maxRecDepth 100000 in
theorem c_X7_add (l : Launch) {D : va_G} {cI cB cZ : ClassId} {sg : Nat} {sp : Nat} {so : Nat} {sb : Nat} {sc : Nat} {sP : Nat → Int32} {sO : Nat → Int32} {sB : Nat → Int32} {i : Nat} {q : Nat} {b : Bool} {zz : Nat} (hsc : sc < 8) : Met l yX7_add wsX7_add ({ frames := 1, cells := 0, slots := 0, locals := 22 } : Room) (va_Pc [.ref sg, .int (nI i), .int (nI q), .int (bI b)] (q_M D (q_tys cI cB cZ) [(sg, .inr (7, [.ref sp, .ref so, .ref sb, .int (nI sc)])), (sp, .inl (cI, 8, .inl sP)), (so, .inl (cI, 8, .inl sO)), (sb, .inl (cZ, 8, .inl sB))] zz)) (va_Qv (S := Unit) (fun _ => True) (fun u t => va_P D vwCl ((fun _ => [(sg, .inr (7, [.ref sp, .ref so, .ref sb, .int (nI (sc + 1))])), (sp, .inl (cI, 8, .inl (upd sP sc (nI i)))), (so, .inl (cI, 8, .inl (upd sO sc (nI q)))), (sb, .inl (cZ, 8, .inl (upd sB sc (bI b))))]) u) t.heap) (va_A [(sg, .inr (7, [.ref sp, .ref so, .ref sb, .int (nI sc)])), (sp, .inl (cI, 8, .inl sP)), (so, .inl (cI, 8, .inl sO)), (sb, .inl (cZ, 8, .inl sB))] zz)) 0 0 (va_A [(sg, .inr (7, [.ref sp, .ref so, .ref sb, .int (nI sc)])), (sp, .inl (cI, 8, .inl sP)), (so, .inl (cI, 8, .inl sO)), (sb, .inl (cZ, 8, .inl sB))] zz) := by
  refine Met.ofW (cc := cX7_add) (maxL := 4) (ret := none) (by decide) rfl ?_
  intro p e s m args below meth c s₁ B hml hv
  obtain ⟨rfl, hsz, hP, hK, hD0⟩ := hv
  have hx := B.exec
  have hb := B.bytes
  have hr := B.returns
  have hts := atoms_spec (ws := wsX7_add) B.pre
  have hown : s.vm.findClass RX7 = some m.cls := findClass_of_methodNamed B.named
  have hlocks := B.notSynchronized
  have hin7 : ∀ w ∈ u_ws RX7 TX7 4, w ∈ wsX7_add := by decide +kernel
  subst hsz
  have hD := hD0.self (sz := s.heap.size)
  generalize hAe : va_A [(sg, .inr (7, [.ref sp, .ref so, .ref sb, .int (nI sc)])), (sp, .inl (cI, 8, .inl sP)), (so, .inl (cI, 8, .inl sO)), (sb, .inl (cZ, 8, .inl sB))] s.heap.size = A at hD ⊢
  have hA : ∀ q : Nat, s.heap.size ≤ q → A q := fun q h => by rw [← hAe]; exact Or.inr h
  have hS : va_S A s.heap s.heap [] := va_S.rf
  have hP : va_P D vwCl [(sg, .inr (7, [.ref sp, .ref so, .ref sb, .int (nI sc)])), (sp, .inl (cI, 8, .inl sP)), (so, .inl (cI, 8, .inl sO)), (sb, .inl (cZ, 8, .inl sB))] s.heap := hP
  have hl := lv_entry ([.ref sg, .int (nI i), .int (nI q), .int (bI b)]) (n := 4) (Nat.le_of_ble_eq_true rfl)
  rw [lg_entry_eq]
  generalize (lg_sl ([.ref sg, .int (nI i), .int (nI q), .int (bI b)]) ++ List.replicate (4 - (lg_sl ([.ref sg, .int (nI i), .int (nI q), .int (bI b)])).length) Slot.unset).toArray = ls at hl ⊢
  have hl : lv_has ls 4 [(0, .ref sg), (1, .int (nI i)), (2, .int (nI q)), (3, .int (bI b))] := hl
  refine lv_aload_n hx hb dX7_add_0 rfl (lv_at hl 0 rfl) ?_
  refine q_get (ci := 7) (CC := RX7) (T := TX7) (N := 4) (v := .int (nI sc)) hx hb hts hin7 hown hK hP 0 rfl rfl 3 (by decide) (hts (.fieldLink RX7 22 "DearAsMany$Sightings" "size" "I") (by decide +kernel)) rfl rfl dX7_add_1 ?_
  refine q_zlt (tgt := 19) hx hb dX7_add_4 (by decide) (by omega) (fun c_4 => ?_) (fun c_4 => ?_)
  · exact absurd c_4 (Nat.not_lt_zero _)
  · refine lv_aload_n hx hb dX7_add_7 rfl (lv_at hl 0 rfl) ?_
    refine q_get (ci := 7) (CC := RX7) (T := TX7) (N := 4) (v := .int (nI sc)) hx hb hts hin7 hown hK hP 0 rfl rfl 3 (by decide) (hts (.fieldLink RX7 22 "DearAsMany$Sightings" "size" "I") (by decide +kernel)) rfl rfl dX7_add_8 ?_
    refine lv_aload_n hx hb dX7_add_11 rfl (lv_at hl 0 rfl) ?_
    refine q_get (ci := 7) (CC := RX7) (T := TX7) (N := 4) (v := .ref sb) hx hb hts hin7 hown hK hP 0 rfl rfl 2 (by decide) (hts (.fieldLink RX7 18 "DearAsMany$Sightings" "purchases" "[Z") (by decide +kernel)) rfl rfl dX7_add_12 ?_
    refine q_alen hx hb hK hP 3 2 rfl rfl dX7_add_15 ?_
    refine q_nlt (tgt := 20) hx hb dX7_add_16 (by decide) (by omega) (by omega) (fun c_16 => ?_) (fun c_16 => ?_)
    · refine lv_aload_n hx hb dX7_add_20 rfl (lv_at hl 0 rfl) ?_
      refine q_get (ci := 7) (CC := RX7) (T := TX7) (N := 4) (v := .ref sp) hx hb hts hin7 hown hK hP 0 rfl rfl 0 (by decide) (hts (.fieldLink RX7 9 "DearAsMany$Sightings" "persons" "[I") (by decide +kernel)) rfl rfl dX7_add_21 ?_
      refine lv_aload_n hx hb dX7_add_24 rfl (lv_at hl 0 rfl) ?_
      refine q_get (ci := 7) (CC := RX7) (T := TX7) (N := 4) (v := .int (nI sc)) hx hb hts hin7 hown hK hP 0 rfl rfl 3 (by decide) (hts (.fieldLink RX7 22 "DearAsMany$Sightings" "size" "I") (by decide +kernel)) rfl rfl dX7_add_25 ?_
      refine lv_iload_n hx hb dX7_add_28 rfl (lv_at hl 1 rfl) ?_
      refine q_nmv (S := Unit) (w1 := fun _ => [(sp, .inl (cI, 8, .inl (upd sP sc (nI i))))]) (w2 := fun _ => [(sg, .inr (7, [.ref sp, .ref so, .ref sb, .int (nI sc)])), (sp, .inl (cI, 8, .inl (upd sP sc (nI i)))), (so, .inl (cI, 8, .inl sO)), (sb, .inl (cZ, 8, .inl sB))]) (As := [.ref sp, .int (nI sc), .int (nI i)]) (rest := []) ⟨hx, hb, hml, hown, hts⟩ (c_X9_put l (D := D) (cI := cI) (cB := cB) (cZ := cZ) (a := sp) (N := 8) (k := sc) (f := sP) (x := nI i) (hsc) (by decide)) ⟨va_cnB 3 hts gX7_add_X9_put_n26 rfl rfl rfl (hK.2.at 20 rfl) (hts (.initialized RX9) (by decide +kernel)) (by decide +kernel) ⟨Nat.le_of_ble_eq_true rfl, Nat.le_of_ble_eq_true rfl⟩, hts (.static yX9_put) (by decide +kernel), trivial⟩ hK hP hD hS hA [1] rfl (by decide) rfl hl.1 rfl (Nat.le_of_ble_eq_true rfl) dX7_add_29 ⟨Nat.zero_le _, Nat.zero_le _⟩ (fun _ => rfl) (fun _ => rfl) (fun _ => rfl) (fun _ H locs hr_29 hP hD hS => ?_)
      have hP : va_P D vwCl [(sg, .inr (7, [.ref sp, .ref so, .ref sb, .int (nI sc)])), (sp, .inl (cI, 8, .inl (upd sP sc (nI i)))), (so, .inl (cI, 8, .inl sO)), (sb, .inl (cZ, 8, .inl sB))] H := hP
      have hD : va_D A [(sg, .inr (7, [.ref sp, .ref so, .ref sb, .int (nI sc)])), (sp, .inl (cI, 8, .inl (upd sP sc (nI i)))), (so, .inl (cI, 8, .inl sO)), (sb, .inl (cZ, 8, .inl sB))] := hD
      refine lv_aload_n hx hb dX7_add_32 rfl (lv_at hl 0 rfl) ?_
      refine q_get (ci := 7) (CC := RX7) (T := TX7) (N := 4) (v := .ref so) hx hb hts hin7 hown hK hP 0 rfl rfl 1 (by decide) (hts (.fieldLink RX7 15 "DearAsMany$Sightings" "others" "[I") (by decide +kernel)) rfl rfl dX7_add_33 ?_
      refine lv_aload_n hx hb dX7_add_36 rfl (lv_at hl 0 rfl) ?_
      refine q_get (ci := 7) (CC := RX7) (T := TX7) (N := 4) (v := .int (nI sc)) hx hb hts hin7 hown hK hP 0 rfl rfl 3 (by decide) (hts (.fieldLink RX7 22 "DearAsMany$Sightings" "size" "I") (by decide +kernel)) rfl rfl dX7_add_37 ?_
      refine lv_iload_n hx hb dX7_add_40 rfl (lv_at hl 2 rfl) ?_
      refine q_nmv (S := Unit) (w1 := fun _ => [(so, .inl (cI, 8, .inl (upd sO sc (nI q))))]) (w2 := fun _ => [(sg, .inr (7, [.ref sp, .ref so, .ref sb, .int (nI sc)])), (sp, .inl (cI, 8, .inl (upd sP sc (nI i)))), (so, .inl (cI, 8, .inl (upd sO sc (nI q)))), (sb, .inl (cZ, 8, .inl sB))]) (As := [.ref so, .int (nI sc), .int (nI q)]) (rest := []) ⟨hx, hb, hml, hown, hts⟩ (c_X9_put l (D := D) (cI := cI) (cB := cB) (cZ := cZ) (a := so) (N := 8) (k := sc) (f := sO) (x := nI q) (hsc) (by decide)) ⟨va_cnB 3 hts gX7_add_X9_put_n26 rfl rfl rfl (hK.2.at 20 rfl) (hts (.initialized RX9) (by decide +kernel)) (by decide +kernel) ⟨Nat.le_of_ble_eq_true rfl, Nat.le_of_ble_eq_true rfl⟩, hts (.static yX9_put) (by decide +kernel), trivial⟩ hK hP hD hS hA [2] rfl (by decide) rfl hl.1 rfl (Nat.le_of_ble_eq_true rfl) dX7_add_41 ⟨Nat.zero_le _, Nat.zero_le _⟩ (fun _ => rfl) (fun _ => rfl) (fun _ => rfl) (fun _ H locs hr_41 hP hD hS => ?_)
      have hP : va_P D vwCl [(sg, .inr (7, [.ref sp, .ref so, .ref sb, .int (nI sc)])), (sp, .inl (cI, 8, .inl (upd sP sc (nI i)))), (so, .inl (cI, 8, .inl (upd sO sc (nI q)))), (sb, .inl (cZ, 8, .inl sB))] H := hP
      have hD : va_D A [(sg, .inr (7, [.ref sp, .ref so, .ref sb, .int (nI sc)])), (sp, .inl (cI, 8, .inl (upd sP sc (nI i)))), (so, .inl (cI, 8, .inl (upd sO sc (nI q)))), (sb, .inl (cZ, 8, .inl sB))] := hD
      refine lv_aload_n hx hb dX7_add_44 rfl (lv_at hl 0 rfl) ?_
      refine q_get (ci := 7) (CC := RX7) (T := TX7) (N := 4) (v := .ref sb) hx hb hts hin7 hown hK hP 0 rfl rfl 2 (by decide) (hts (.fieldLink RX7 18 "DearAsMany$Sightings" "purchases" "[Z") (by decide +kernel)) rfl rfl dX7_add_45 ?_
      refine lv_aload_n hx hb dX7_add_48 rfl (lv_at hl 0 rfl) ?_
      refine q_get (ci := 7) (CC := RX7) (T := TX7) (N := 4) (v := .int (nI sc)) hx hb hts hin7 hown hK hP 0 rfl rfl 3 (by decide) (hts (.fieldLink RX7 22 "DearAsMany$Sightings" "size" "I") (by decide +kernel)) rfl rfl dX7_add_49 ?_
      refine lv_iload_n hx hb dX7_add_52 rfl (lv_at hl 3 rfl) ?_
      refine q_zst (w2 := [(sg, .inr (7, [.ref sp, .ref so, .ref sb, .int (nI sc)])), (sp, .inl (cI, 8, .inl (upd sP sc (nI i)))), (so, .inl (cI, 8, .inl (upd sO sc (nI q)))), (sb, .inl (cZ, 8, .inl (upd sB sc (vp_nar .boolean (bI b)))))]) hx hb hK hP hD hS 3 2 rfl rfl (by omega) (by first | decide | omega) dX7_add_53 rfl (fun H locs hP hD hS => ?_)
      have hP : va_P D vwCl [(sg, .inr (7, [.ref sp, .ref so, .ref sb, .int (nI sc)])), (sp, .inl (cI, 8, .inl (upd sP sc (nI i)))), (so, .inl (cI, 8, .inl (upd sO sc (nI q)))), (sb, .inl (cZ, 8, .inl (upd sB sc (bI b))))] H := by rw [← show (upd sB sc (vp_nar .boolean (bI b))) = (upd sB sc (bI b)) from by rw [q_narZ]]; exact hP
      have hD : va_D A [(sg, .inr (7, [.ref sp, .ref so, .ref sb, .int (nI sc)])), (sp, .inl (cI, 8, .inl (upd sP sc (nI i)))), (so, .inl (cI, 8, .inl (upd sO sc (nI q)))), (sb, .inl (cZ, 8, .inl (upd sB sc (bI b))))] := q_Dadr (by rfl) hD
      refine lv_aload_n hx hb dX7_add_54 rfl (lv_at hl 0 rfl) ?_
      refine lv_dup hx hb dX7_add_55 rfl ?_
      refine q_get (ci := 7) (CC := RX7) (T := TX7) (N := 4) (v := .int (nI sc)) hx hb hts hin7 hown hK hP 0 rfl rfl 3 (by decide) (hts (.fieldLink RX7 22 "DearAsMany$Sightings" "size" "I") (by decide +kernel)) rfl rfl dX7_add_56 ?_
      refine lv_iconst (v := nI 1) hx hb dX7_add_59 (by decide) ?_
      refine q_iadd (v := nI (sc + 1)) hx hb dX7_add_60 (nI_add _ _) ?_
      refine q_put (ci := 7) (CC := RX7) (T := TX7) (N := 4) (w2 := [(sg, .inr (7, [.ref sp, .ref so, .ref sb, .int (nI (sc + 1))])), (sp, .inl (cI, 8, .inl (upd sP sc (nI i)))), (so, .inl (cI, 8, .inl (upd sO sc (nI q)))), (sb, .inl (cZ, 8, .inl (upd sB sc (bI b))))]) hx hb hts hin7 tyX7 tyX7_ok nmX7 hown hK hP hD hS 0 rfl rfl 3 (by decide) (hts (.fieldLink RX7 22 "DearAsMany$Sightings" "size" "I") (by decide +kernel)) rfl rfl rfl (Nat.le_of_ble_eq_true rfl) dX7_add_61 rfl (fun H locs hP hD hS => ?_)
      exact q_mretv (S := Unit) (w1 := fun _ => [(sg, .inr (7, [.ref sp, .ref so, .ref sb, .int (nI (sc + 1))])), (sp, .inl (cI, 8, .inl (upd sP sc (nI i)))), (so, .inl (cI, 8, .inl (upd sO sc (nI q)))), (sb, .inl (cZ, 8, .inl (upd sB sc (bI b))))]) () hx hb hr hlocks hP hS dX7_add_64 (trivial)
    · exfalso; omega

set_option maxHeartbeats 4000000 in
set_option maxRecDepth 100000 in
theorem c_X7_fit (l : Launch) {D : va_G} {cI cB cZ : ClassId} {sg : Nat} {sp : Nat} {so : Nat} {sb : Nat} {sc : Nat} {sP : Nat → Int32} {sO : Nat → Int32} {sB : Nat → Int32} {i : Nat} {v : Nat} {hp : Nat} {ht : Nat} {n : Nat} {fo : Int32} {ss : Int32} {tr : Nat → Int32} {T : Nat → Nat → Nat} {SP : Nat → Nat} {SO : Nat → Nat} {SB : Nat → Bool} (hT : q_Tr T n tr) (hB : q_Bd T n) (hi : i < n) (hSg : q_Sg sc SP SO SB sP sO sB) : Met l yX7_fit wsX7_fit ({ frames := 1, cells := 0, slots := 0, locals := 24 } : Room) (va_Pc [.ref sg, .int (nI i), .int (nI v), .ref hp] (q_B D (q_tys cI cB cZ) [(sg, .inr (7, [.ref sp, .ref so, .ref sb, .int (nI sc)])), (sp, .inl (cI, 8, .inl sP)), (so, .inl (cI, 8, .inl sO)), (sb, .inl (cZ, 8, .inl sB)), (hp, .inr (4, [.ref ht, .int (nI n), .int fo, .int ss])), (ht, .inl (cI, 35, .inl tr))])) (vp_Si (fun r => r = bI (q_ft T i v SP SO SB sc))) 0 0 (fun _ => False) := by
  refine Met.ofW (cc := cX7_fit) (maxL := 7) (ret := (some .boolean)) (by decide) rfl ?_
  intro p e s m args below meth c s₁ B hml hv
  obtain ⟨rfl, hP, hK⟩ := hv
  have hx := B.exec
  have hb := B.bytes
  have hr := B.returns
  have hts := atoms_spec (ws := wsX7_fit) B.pre
  have hown : s.vm.findClass RX7 = some m.cls := findClass_of_methodNamed B.named
  have hlocks := B.notSynchronized
  have hin7 : ∀ w ∈ u_ws RX7 TX7 4, w ∈ wsX7_fit := by decide +kernel
  have hP : va_P D vwCl [(sg, .inr (7, [.ref sp, .ref so, .ref sb, .int (nI sc)])), (sp, .inl (cI, 8, .inl sP)), (so, .inl (cI, 8, .inl sO)), (sb, .inl (cZ, 8, .inl sB)), (hp, .inr (4, [.ref ht, .int (nI n), .int fo, .int ss])), (ht, .inl (cI, 35, .inl tr))] s.heap := hP
  have hl := lv_entry ([.ref sg, .int (nI i), .int (nI v), .ref hp]) (n := 7) (Nat.le_of_ble_eq_true rfl)
  rw [lg_entry_eq]
  generalize (lg_sl ([.ref sg, .int (nI i), .int (nI v), .ref hp]) ++ List.replicate (7 - (lg_sl ([.ref sg, .int (nI i), .int (nI v), .ref hp])).length) Slot.unset).toArray = ls at hl ⊢
  have hl : lv_has ls 7 [(0, .ref sg), (1, .int (nI i)), (2, .int (nI v)), (3, .ref hp)] := hl
  have hn7 := hB.1
  have hsc := hSg.1
  have L3 : ∀ (fuel : Nat) (k : Nat) (hk : k ≤ sc) (hq : q_ft T i v SP SO SB k = true) (hf : sc - k < fuel) (ls : Array Slot) (hl : lv_has ls 7 [(0, .ref sg), (1, .int (nI i)), (2, .int (nI v)), (3, .ref hp), (4, .int (nI k))]), W p l e (headSpec wsX7_fit ({ frames := 1, cells := 0, slots := 0, locals := 24 } : Room)).room s m ([.ref sg, .int (nI i), .int (nI v), .ref hp] : List Value).toArray below meth c s.heap [] 0 0 (MQ below (vp_Si (fun r => r = bI (q_ft T i v SP SO SB sc))) ([.ref sg, .int (nI i), .int (nI v), .ref hp] : List Value).toArray s 0 0 (fun _ => False)) (F0 m 3 ls []) := by
    intro fuel
    induction fuel with
    | zero =>
      intro k hk hq hf ls hl
      exact absurd hf (Nat.not_lt_zero _)
    | succ fuel ih3 =>
      intro k hk hq hf ls hl
      refine lv_iload hx hb dX7_fit_3 (lv_at hl 4 rfl) ?_
      refine lv_aload_n hx hb dX7_fit_5 rfl (lv_at hl 0 rfl) ?_
      refine q_get (ci := 7) (CC := RX7) (T := TX7) (N := 4) (v := .int (nI sc)) hx hb hts hin7 hown hK hP 0 rfl rfl 3 (by decide) (hts (.fieldLink RX7 22 "DearAsMany$Sightings" "size" "I") (by decide +kernel)) rfl rfl dX7_fit_6 ?_
      refine q_nge (tgt := 98) hx hb dX7_fit_9 (by decide) (by omega) (by omega) (fun c_9 => ?_) (fun c_9 => ?_)
      · refine lv_iconst (v := nI 1) hx hb dX7_fit_98 (by decide) ?_
        exact q_zret (v := nI 1) hx hb hr hlocks (q_nar1) (show nI 1 = bI (q_ft T i v SP SO SB sc) from by rw [show sc = k from by omega, hq]; rfl) dX7_fit_99
      · refine lv_iload hx hb dX7_fit_12 (lv_at hl 4 rfl) ?_
        refine lv_aload_n hx hb dX7_fit_14 rfl (lv_at hl 0 rfl) ?_
        refine q_get (ci := 7) (CC := RX7) (T := TX7) (N := 4) (v := .ref sb) hx hb hts hin7 hown hK hP 0 rfl rfl 2 (by decide) (hts (.fieldLink RX7 18 "DearAsMany$Sightings" "purchases" "[Z") (by decide +kernel)) rfl rfl dX7_fit_15 ?_
        refine q_alen hx hb hK hP 3 2 rfl rfl dX7_fit_18 ?_
        refine q_nge (tgt := 98) hx hb dX7_fit_19 (by decide) (by omega) (by omega) (fun c_19 => ?_) (fun c_19 => ?_)
        · exfalso; omega
        · refine lv_aload_n hx hb dX7_fit_22 rfl (lv_at hl 0 rfl) ?_
          refine q_get (ci := 7) (CC := RX7) (T := TX7) (N := 4) (v := .ref so) hx hb hts hin7 hown hK hP 0 rfl rfl 1 (by decide) (hts (.fieldLink RX7 15 "DearAsMany$Sightings" "others" "[I") (by decide +kernel)) rfl rfl dX7_fit_23 ?_
          refine lv_iload hx hb dX7_fit_26 (lv_at hl 4 rfl) ?_
          refine q_ni (As := [.ref so, .int (nI k)]) (rest := []) ⟨hx, hb, hml, hown, hts⟩ (c_X9_at l (D := D) (cI := cI) (cB := cB) (cZ := cZ) (a := so) (N := 8) (k := k) (f := sO) (by omega) (by decide)) ⟨va_cnB 2 hts gX7_fit_X9_at_n30 rfl rfl rfl (hK.2.at 21 rfl) (hts (.initialized RX9) (by decide +kernel)) (by decide +kernel) ⟨Nat.le_of_ble_eq_true rfl, Nat.le_of_ble_eq_true rfl⟩, hts (.static yX9_at) (by decide +kernel), trivial⟩ hK hP [2] rfl rfl hl.1 rfl (Nat.le_of_ble_eq_true rfl) dX7_fit_28 ⟨Nat.zero_le _, Nat.zero_le _⟩ (fun r_28 hr_28 => ?_)
          have hr_28 : nI (SO k) = r_28 := (Eq.trans (show r_28 = sO k from hr_28) ((hSg.2 k (by omega)).2.2.2.1)).symm
          subst hr_28
          refine lv_istore (lv' := [(5, .int (nI (SO k))), (0, .ref sg), (1, .int (nI i)), (2, .int (nI v)), (3, .ref hp), (4, .int (nI k))]) hx hb dX7_fit_31 hl (by decide) rfl (fun ls hl => ?_)
          refine lv_aload_n hx hb dX7_fit_33 rfl (lv_at hl 4 rfl) ?_
          refine lv_iload_n hx hb dX7_fit_34 rfl (lv_at hl 2 rfl) ?_
          refine lv_iconst (v := nI 0) hx hb dX7_fit_35 (by decide) ?_
          refine q_vi (As := [.int (nI i), .int (nI 0)]) (rest := []) ⟨hx, hb, hml, hown, hts⟩ (c_X4_trait l (D := D) (cI := cI) (cB := cB) (cZ := cZ) (hp := hp) (ht := ht) (i := i) (k := 0) (sz := nI n) (fo := fo) (ss := ss) (tr := tr) (by omega) (by decide)) (cwV 2 hts gX7_fit_X4_trait rfl rfl rfl (by decide +kernel) ⟨Nat.le_of_ble_eq_true rfl, Nat.le_of_ble_eq_true rfl⟩) hK hP [4, 5] rfl 4 4 rfl rfl rfl rfl hl.1 rfl (Nat.le_of_ble_eq_true rfl) dX7_fit_36 ⟨Nat.zero_le _, Nat.zero_le _⟩ (fun r_36 hr_36 => ?_)
          have hr_36 : nI (T i 0) = r_36 := (Eq.trans (show r_36 = tr (i * 5 + 0) from hr_36) (hT i hi 0 (by decide))).symm
          subst hr_36
          refine lv_iload_n hx hb dX7_fit_39 rfl (lv_at hl 3 rfl) ?_
          refine lv_aload_n hx hb dX7_fit_40 rfl (lv_at hl 4 rfl) ?_
          refine lv_iload_n hx hb dX7_fit_41 rfl (lv_at hl 2 rfl) ?_
          refine lv_iconst (v := nI 2) hx hb dX7_fit_42 (by decide) ?_
          refine q_vi (As := [.int (nI i), .int (nI 2)]) (rest := [.int (nI v), .int (nI (T i 0))]) ⟨hx, hb, hml, hown, hts⟩ (c_X4_trait l (D := D) (cI := cI) (cB := cB) (cZ := cZ) (hp := hp) (ht := ht) (i := i) (k := 2) (sz := nI n) (fo := fo) (ss := ss) (tr := tr) (by omega) (by decide)) (cwV 2 hts gX7_fit_X4_trait rfl rfl rfl (by decide +kernel) ⟨Nat.le_of_ble_eq_true rfl, Nat.le_of_ble_eq_true rfl⟩) hK hP [4, 5] rfl 4 4 rfl rfl rfl rfl hl.1 rfl (Nat.le_of_ble_eq_true rfl) dX7_fit_43 ⟨Nat.zero_le _, Nat.zero_le _⟩ (fun r_43 hr_43 => ?_)
          have hr_43 : nI (T i 2) = r_43 := (Eq.trans (show r_43 = tr (i * 5 + 2) from hr_43) (hT i hi 2 (by decide))).symm
          subst hr_43
          refine lv_bipush (v := nI 50) hx hb dX7_fit_46 (by decide) ?_
          refine lv_iload hx hb dX7_fit_48 (lv_at hl 0 rfl) ?_
          refine q_ni (As := [.int (nI (T i 0)), .int (nI v), .int (nI (T i 2)), .int (nI 50), .int (nI (SO k))]) (rest := []) ⟨hx, hb, hml, hown, hts⟩ (c_X9_valueOf l (D := D) (cI := cI) (cB := cB) (cZ := cZ) (k := T i 0) (cc := T i 2) (o := SO k) (x := nI v) (se := nI 50) ((hB.2 i hi).1) (by have := (hSg.2 k (by omega)).2.1; omega)) ⟨va_cnB 5 hts gX7_fit_X9_valueOf_n40 rfl rfl rfl (hK.2.at 22 rfl) (hts (.initialized RX9) (by decide +kernel)) (by decide +kernel) ⟨Nat.le_of_ble_eq_true rfl, Nat.le_of_ble_eq_true rfl⟩, hts (.static yX9_valueOf) (by decide +kernel), trivial⟩ hK hP [] rfl rfl hl.1 rfl (Nat.le_of_ble_eq_true rfl) dX7_fit_50 ⟨Nat.zero_le _, Nat.zero_le _⟩ (fun r_50 hr_50 => ?_)
          have hr_50 : q_wby (T i 0) (nI v) (T i 2) (SO k) = r_50 := (Eq.trans (show r_50 = q_wby (T i 0) ((nI v) + ((nI 50) - nI 50)) (T i 2) (SO k) from hr_50) (by rw [q_50])).symm
          subst hr_50
          refine lv_istore (lv' := [(6, .int (q_wby (T i 0) (nI v) (T i 2) (SO k))), (5, .int (nI (SO k))), (0, .ref sg), (1, .int (nI i)), (2, .int (nI v)), (3, .ref hp), (4, .int (nI k))]) hx hb dX7_fit_53 hl (by decide) rfl (fun ls hl => ?_)
          refine lv_aload_n hx hb dX7_fit_55 rfl (lv_at hl 2 rfl) ?_
          refine q_get (ci := 7) (CC := RX7) (T := TX7) (N := 4) (v := .ref sp) hx hb hts hin7 hown hK hP 0 rfl rfl 0 (by decide) (hts (.fieldLink RX7 9 "DearAsMany$Sightings" "persons" "[I") (by decide +kernel)) rfl rfl dX7_fit_56 ?_
          refine lv_iload hx hb dX7_fit_59 (lv_at hl 6 rfl) ?_
          refine q_ni (As := [.ref sp, .int (nI k)]) (rest := []) ⟨hx, hb, hml, hown, hts⟩ (c_X9_at l (D := D) (cI := cI) (cB := cB) (cZ := cZ) (a := sp) (N := 8) (k := k) (f := sP) (by omega) (by decide)) ⟨va_cnB 2 hts gX7_fit_X9_at_n30 rfl rfl rfl (hK.2.at 21 rfl) (hts (.initialized RX9) (by decide +kernel)) (by decide +kernel) ⟨Nat.le_of_ble_eq_true rfl, Nat.le_of_ble_eq_true rfl⟩, hts (.static yX9_at) (by decide +kernel), trivial⟩ hK hP [1] rfl rfl hl.1 rfl (Nat.le_of_ble_eq_true rfl) dX7_fit_61 ⟨Nat.zero_le _, Nat.zero_le _⟩ (fun r_61 hr_61 => ?_)
          have hr_61 : nI (SP k) = r_61 := (Eq.trans (show r_61 = sP k from hr_61) ((hSg.2 k (by omega)).2.2.1)).symm
          subst hr_61
          refine lv_iload_n hx hb dX7_fit_64 rfl (lv_at hl 3 rfl) ?_
          refine q_nne (tgt := 92) hx hb dX7_fit_65 (by decide) (by have := (hSg.2 k (by omega)).1; omega) (by omega) (fun c_65 => ?_) (fun c_65 => ?_)
          · refine lv_iinc (v := nI (k + 1)) (lv' := [(4, .int (nI (k + 1))), (6, .int (q_wby (T i 0) (nI v) (T i 2) (SO k))), (5, .int (nI (SO k))), (0, .ref sg), (1, .int (nI i)), (2, .int (nI v)), (3, .ref hp)]) hx hb dX7_fit_92 hl (k := 6) rfl (nI_add _ 1) (by decide) rfl (fun ls hl => ?_)
            refine lv_goto (tgt := 3) hx hb dX7_fit_95 (by decide) ?_
            exact ih3 (k + 1) (by omega) (q_ftS hq (q_f1a c_65)) (by omega) ls (lv_sub hl [3, 4, 5, 6, 0] rfl)
          · refine lv_iload hx hb dX7_fit_68 (lv_at hl 0 rfl) ?_
            refine lv_iload hx hb dX7_fit_70 (lv_at hl 1 rfl) ?_
            refine lv_icmp_le (x := q_wby (T i 0) (nI v) (T i 2) (SO k)) (y := nI (SO k)) (tgt := 79) hx hb dX7_fit_72 (by decide) (fun c_72 => ?_) (fun c_72 => ?_)
            · refine lv_iconst (v := nI 0) hx hb dX7_fit_79 (by decide) ?_
              refine lv_aload_n hx hb dX7_fit_80 rfl (lv_at hl 2 rfl) ?_
              refine q_get (ci := 7) (CC := RX7) (T := TX7) (N := 4) (v := .ref sb) hx hb hts hin7 hown hK hP 0 rfl rfl 2 (by decide) (hts (.fieldLink RX7 18 "DearAsMany$Sightings" "purchases" "[Z") (by decide +kernel)) rfl rfl dX7_fit_81 ?_
              refine lv_iload hx hb dX7_fit_84 (lv_at hl 6 rfl) ?_
              refine q_zldv (v := bI (SB k)) hx hb hK hP 3 2 rfl rfl (by omega) (by decide) dX7_fit_86 ((hSg.2 k (by omega)).2.2.2.2) ?_
              refine lv_icmp_eq (x := nI 0) (y := bI (SB k)) (tgt := 92) hx hb dX7_fit_87 (by decide) (fun c_87 => ?_) (fun c_87 => ?_)
              · refine lv_iinc (v := nI (k + 1)) (lv' := [(4, .int (nI (k + 1))), (6, .int (q_wby (T i 0) (nI v) (T i 2) (SO k))), (5, .int (nI (SO k))), (0, .ref sg), (1, .int (nI i)), (2, .int (nI v)), (3, .ref hp)]) hx hb dX7_fit_92 hl (k := 6) rfl (nI_add _ 1) (by decide) rfl (fun ls hl => ?_)
                refine lv_goto (tgt := 3) hx hb dX7_fit_95 (by decide) ?_
                exact ih3 (k + 1) (by omega) (q_ftS hq (q_f1b (q_dF c_72) (q_b0 c_87))) (by omega) ls (lv_sub hl [3, 4, 5, 6, 0] rfl)
              · refine lv_iconst (v := nI 0) hx hb dX7_fit_90 (by decide) ?_
                exact q_zret (v := nI 0) hx hb hr hlocks (q_nar0) (show nI 0 = bI (q_ft T i v SP SO SB sc) from by rw [q_ftF (q_f1c c_65 (q_dF c_72) (q_b0n c_87)) (show k < sc from by omega)]; rfl) dX7_fit_91
            · refine lv_iconst (v := nI 1) hx hb dX7_fit_75 (by decide) ?_
              refine lv_goto (tgt := 80) hx hb dX7_fit_76 (by decide) ?_
              refine lv_aload_n hx hb dX7_fit_80 rfl (lv_at hl 2 rfl) ?_
              refine q_get (ci := 7) (CC := RX7) (T := TX7) (N := 4) (v := .ref sb) hx hb hts hin7 hown hK hP 0 rfl rfl 2 (by decide) (hts (.fieldLink RX7 18 "DearAsMany$Sightings" "purchases" "[Z") (by decide +kernel)) rfl rfl dX7_fit_81 ?_
              refine lv_iload hx hb dX7_fit_84 (lv_at hl 6 rfl) ?_
              refine q_zldv (v := bI (SB k)) hx hb hK hP 3 2 rfl rfl (by omega) (by decide) dX7_fit_86 ((hSg.2 k (by omega)).2.2.2.2) ?_
              refine lv_icmp_eq (x := nI 1) (y := bI (SB k)) (tgt := 92) hx hb dX7_fit_87 (by decide) (fun c_87 => ?_) (fun c_87 => ?_)
              · refine lv_iinc (v := nI (k + 1)) (lv' := [(4, .int (nI (k + 1))), (6, .int (q_wby (T i 0) (nI v) (T i 2) (SO k))), (5, .int (nI (SO k))), (0, .ref sg), (1, .int (nI i)), (2, .int (nI v)), (3, .ref hp)]) hx hb dX7_fit_92 hl (k := 6) rfl (nI_add _ 1) (by decide) rfl (fun ls hl => ?_)
                refine lv_goto (tgt := 3) hx hb dX7_fit_95 (by decide) ?_
                exact ih3 (k + 1) (by omega) (q_ftS hq (q_f1b (q_dT c_72) (q_b1' c_87))) (by omega) ls (lv_sub hl [3, 4, 5, 6, 0] rfl)
              · refine lv_iconst (v := nI 0) hx hb dX7_fit_90 (by decide) ?_
                exact q_zret (v := nI 0) hx hb hr hlocks (q_nar0) (show nI 0 = bI (q_ft T i v SP SO SB sc) from by rw [q_ftF (q_f1c c_65 (q_dT c_72) (q_b1n c_87)) (show k < sc from by omega)]; rfl) dX7_fit_91
  refine lv_iconst (v := nI 0) hx hb dX7_fit_0 (by decide) ?_
  refine lv_istore (lv' := [(4, .int (nI 0)), (0, .ref sg), (1, .int (nI i)), (2, .int (nI v)), (3, .ref hp)]) hx hb dX7_fit_1 hl (by decide) rfl (fun ls hl => ?_)
  exact L3 _ 0 (Nat.zero_le _) (rfl) (Nat.lt_succ_self _) ls (lv_sub hl [1, 2, 3, 4, 0] rfl)
