set_option maxHeartbeats 4000000 in
set_option maxRecDepth 100000 in
/-- 1 shifted -/
theorem c_X9_bit (l : Launch) {D : va_G} {cI cB cZ : ClassId} {i : Nat} (hi : i < 31) : Met l yX9_bit wsX9_bit ({ frames := 0, cells := 0, slots := 0, locals := 0 } : Room) (va_Pc [.int (nI i)] (q_B D (q_tys cI cB cZ) [])) (vp_Si (fun r => r = nI (2 ^ i))) 0 0 (fun _ => False) := by
  refine Met.ofW (cc := cX9_bit) (maxL := 1) (ret := (some .int)) (by decide) rfl ?_
  intro p e s m args below meth c s₁ B hml hv
  obtain ⟨rfl, hP, hK⟩ := hv
  have hx := B.exec
  have hb := B.bytes
  have hr := B.returns
  have hts := atoms_spec (ws := wsX9_bit) B.pre
  have hown : s.vm.findClass RX9 = some m.cls := findClass_of_methodNamed B.named
  have hlocks := B.notSynchronized
  have hP : va_P D vwCl [] s.heap := hP
  have hl := lv_entry ([.int (nI i)]) (n := 1) (Nat.le_of_ble_eq_true rfl)
  rw [lg_entry_eq]
  generalize (lg_sl ([.int (nI i)]) ++ List.replicate (1 - (lg_sl ([.int (nI i)])).length) Slot.unset).toArray = ls at hl ⊢
  have hl : lv_has ls 1 [(0, .int (nI i))] := hl
  refine lv_iconst (v := nI 1) hx hb dX9_bit_0 (by decide) ?_
  refine lv_iload_n hx hb dX9_bit_1 rfl (lv_at hl 0 rfl) ?_
  refine q_ishl (v := nI (2 ^ i)) hx hb dX9_bit_2 (q_shl1 hi) ?_
  exact q_zret (v := nI (2 ^ i)) hx hb hr hlocks (rfl) (show nI (2 ^ i) = nI (2 ^ i) from rfl) dX9_bit_3

set_option maxHeartbeats 4000000 in
set_option maxRecDepth 100000 in
theorem c_X9_has (l : Launch) {D : va_G} {cI cB cZ : ClassId} {S : Nat} {i : Nat} (hi : i < 31) (hS : S < 2147483648) : Met l yX9_has wsX9_has ({ frames := 1, cells := 0, slots := 0, locals := 20 } : Room) (va_Pc [.int (nI S), .int (nI i)] (q_B D (q_tys cI cB cZ) [])) (vp_Si (fun r => r = bI (S.testBit i))) 0 0 (fun _ => False) := by
  refine Met.ofW (cc := cX9_has) (maxL := 2) (ret := (some .boolean)) (by decide) rfl ?_
  intro p e s m args below meth c s₁ B hml hv
  obtain ⟨rfl, hP, hK⟩ := hv
  have hx := B.exec
  have hb := B.bytes
  have hr := B.returns
  have hts := atoms_spec (ws := wsX9_has) B.pre
  have hown : s.vm.findClass RX9 = some m.cls := findClass_of_methodNamed B.named
  have hlocks := B.notSynchronized
  have hP : va_P D vwCl [] s.heap := hP
  have hl := lv_entry ([.int (nI S), .int (nI i)]) (n := 2) (Nat.le_of_ble_eq_true rfl)
  rw [lg_entry_eq]
  generalize (lg_sl ([.int (nI S), .int (nI i)]) ++ List.replicate (2 - (lg_sl ([.int (nI S), .int (nI i)])).length) Slot.unset).toArray = ls at hl ⊢
  have hl : lv_has ls 2 [(0, .int (nI S)), (1, .int (nI i))] := hl
  refine lv_iload_n hx hb dX9_has_0 rfl (lv_at hl 0 rfl) ?_
  refine lv_iload_n hx hb dX9_has_1 rfl (lv_at hl 1 rfl) ?_
  refine q_si (As := [.int (nI i)]) (rest := [.int (nI S)]) ⟨hx, hb, hml, hown, hts⟩ (c_X9_bit l (D := D) (cI := cI) (cB := cB) (cZ := cZ) (i := i) (by first | assumption | exact Nat.zero_le _ | omega)) (va_cwS 1 hts gX9_has_X9_bit rfl rfl rfl (by decide +kernel) ⟨Nat.le_of_ble_eq_true rfl, Nat.le_of_ble_eq_true rfl⟩) hK hP [] rfl rfl hl.1 rfl (Nat.le_of_ble_eq_true rfl) dX9_has_2 ⟨Nat.zero_le _, Nat.zero_le _⟩ (fun r_2 hr_2 => ?_)
  have hr_2 : nI (2 ^ i) = r_2 := (show r_2 = nI (2 ^ i) from hr_2).symm
  subst hr_2
  refine q_iand (v := nI (S &&& (2 ^ i))) hx hb dX9_has_5 (q_and _ _) ?_
  refine q_zeq (tgt := 13) hx hb dX9_has_6 (by decide) (Nat.lt_of_le_of_lt Nat.and_le_left hS) (fun c_6 => ?_) (fun c_6 => ?_)
  · refine lv_iconst (v := nI 0) hx hb dX9_has_13 (by decide) ?_
    exact q_zret (v := nI 0) hx hb hr hlocks (q_nar0) (show nI 0 = bI (S.testBit i) from by rw [q_hasT c_6]; rfl) dX9_has_14
  · refine lv_iconst (v := nI 1) hx hb dX9_has_9 (by decide) ?_
    refine lv_goto (tgt := 14) hx hb dX9_has_10 (by decide) ?_
    exact q_zret (v := nI 1) hx hb hr hlocks (q_nar1) (show nI 1 = bI (S.testBit i) from by rw [q_hasF c_6]; rfl) dX9_has_14

set_option maxHeartbeats 4000000 in
set_option maxRecDepth 100000 in
theorem c_X9_at (l : Launch) {D : va_G} {cI cB cZ : ClassId} {a : Nat} {N : Nat} {k : Nat} {f : Nat → Int32} (hk : k < N) (hN : N < 2147483648) : Met l yX9_at wsX9_at ({ frames := 0, cells := 0, slots := 0, locals := 0 } : Room) (va_Pc [.ref a, .int (nI k)] (q_B D (q_tys cI cB cZ) [(a, .inl (cI, N, .inl f))])) (vp_Si (fun r => r = f k)) 0 0 (fun _ => False) := by
  refine Met.ofW (cc := cX9_at) (maxL := 2) (ret := (some .int)) (by decide) rfl ?_
  intro p e s m args below meth c s₁ B hml hv
  obtain ⟨rfl, hP, hK⟩ := hv
  have hx := B.exec
  have hb := B.bytes
  have hr := B.returns
  have hts := atoms_spec (ws := wsX9_at) B.pre
  have hown : s.vm.findClass RX9 = some m.cls := findClass_of_methodNamed B.named
  have hlocks := B.notSynchronized
  have hP : va_P D vwCl [(a, .inl (cI, N, .inl f))] s.heap := hP
  have hl := lv_entry ([.ref a, .int (nI k)]) (n := 2) (Nat.le_of_ble_eq_true rfl)
  rw [lg_entry_eq]
  generalize (lg_sl ([.ref a, .int (nI k)]) ++ List.replicate (2 - (lg_sl ([.ref a, .int (nI k)])).length) Slot.unset).toArray = ls at hl ⊢
  have hl : lv_has ls 2 [(0, .ref a), (1, .int (nI k))] := hl
  refine lv_iload_n hx hb dX9_at_0 rfl (lv_at hl 1 rfl) ?_
  refine q_zlt (tgt := 16) hx hb dX9_at_1 (by decide) (by omega) (fun c_1 => ?_) (fun c_1 => ?_)
  · exact absurd c_1 (Nat.not_lt_zero _)
  · refine lv_iload_n hx hb dX9_at_4 rfl (lv_at hl 1 rfl) ?_
    refine lv_aload_n hx hb dX9_at_5 rfl (lv_at hl 0 rfl) ?_
    refine q_alen hx hb hK hP 0 0 rfl rfl dX9_at_6 ?_
    refine q_nge (tgt := 16) hx hb dX9_at_7 (by decide) (by omega) (by omega) (fun c_7 => ?_) (fun c_7 => ?_)
    · exact absurd c_7 (Nat.not_le.mpr hk)
    · refine lv_aload_n hx hb dX9_at_10 rfl (lv_at hl 0 rfl) ?_
      refine lv_iload_n hx hb dX9_at_11 rfl (lv_at hl 1 rfl) ?_
      refine q_ald hx hb hK hP 0 0 rfl rfl hk (by first | decide | omega) dX9_at_12 ?_
      refine lv_goto (tgt := 17) hx hb dX9_at_13 (by decide) ?_
      exact q_zret (v := f k) hx hb hr hlocks (rfl) (show f k = f k from rfl) dX9_at_17

set_option maxHeartbeats 4000000 in
set_option maxRecDepth 100000 in
theorem c_X9_put (l : Launch) {D : va_G} {cI cB cZ : ClassId} {a : Nat} {N : Nat} {k : Nat} {f : Nat → Int32} {x : Int32} {zz : Nat} (hk : k < N) (hN : N < 2147483648) : Met l yX9_put wsX9_put ({ frames := 0, cells := 0, slots := 0, locals := 0 } : Room) (va_Pc [.ref a, .int (nI k), .int x] (q_M D (q_tys cI cB cZ) [(a, .inl (cI, N, .inl f))] zz)) (va_Qv (S := Unit) (fun _ => True) (fun u t => va_P D vwCl ((fun _ => [(a, .inl (cI, N, .inl (upd f k x)))]) u) t.heap) (va_A [(a, .inl (cI, N, .inl f))] zz)) 0 0 (va_A [(a, .inl (cI, N, .inl f))] zz) := by
  refine Met.ofW (cc := cX9_put) (maxL := 3) (ret := none) (by decide) rfl ?_
  intro p e s m args below meth c s₁ B hml hv
  obtain ⟨rfl, hsz, hP, hK, hD0⟩ := hv
  have hx := B.exec
  have hb := B.bytes
  have hr := B.returns
  have hts := atoms_spec (ws := wsX9_put) B.pre
  have hown : s.vm.findClass RX9 = some m.cls := findClass_of_methodNamed B.named
  have hlocks := B.notSynchronized
  subst hsz
  have hD := hD0.self (sz := s.heap.size)
  generalize hAe : va_A [(a, .inl (cI, N, .inl f))] s.heap.size = A at hD ⊢
  have hA : ∀ q : Nat, s.heap.size ≤ q → A q := fun q h => by rw [← hAe]; exact Or.inr h
  have hS : va_S A s.heap s.heap [] := va_S.rf
  have hP : va_P D vwCl [(a, .inl (cI, N, .inl f))] s.heap := hP
  have hl := lv_entry ([.ref a, .int (nI k), .int x]) (n := 3) (Nat.le_of_ble_eq_true rfl)
  rw [lg_entry_eq]
  generalize (lg_sl ([.ref a, .int (nI k), .int x]) ++ List.replicate (3 - (lg_sl ([.ref a, .int (nI k), .int x])).length) Slot.unset).toArray = ls at hl ⊢
  have hl : lv_has ls 3 [(0, .ref a), (1, .int (nI k)), (2, .int x)] := hl
  refine lv_iload_n hx hb dX9_put_0 rfl (lv_at hl 1 rfl) ?_
  refine q_zlt (tgt := 14) hx hb dX9_put_1 (by decide) (by omega) (fun c_1 => ?_) (fun c_1 => ?_)
  · exact absurd c_1 (Nat.not_lt_zero _)
  · refine lv_iload_n hx hb dX9_put_4 rfl (lv_at hl 1 rfl) ?_
    refine lv_aload_n hx hb dX9_put_5 rfl (lv_at hl 0 rfl) ?_
    refine q_alen hx hb hK hP 0 0 rfl rfl dX9_put_6 ?_
    refine q_nge (tgt := 14) hx hb dX9_put_7 (by decide) (by omega) (by omega) (fun c_7 => ?_) (fun c_7 => ?_)
    · exact absurd c_7 (Nat.not_le.mpr hk)
    · refine lv_aload_n hx hb dX9_put_10 rfl (lv_at hl 0 rfl) ?_
      refine lv_iload_n hx hb dX9_put_11 rfl (lv_at hl 1 rfl) ?_
      refine lv_iload_n hx hb dX9_put_12 rfl (lv_at hl 2 rfl) ?_
      refine q_ast (w2 := [(a, .inl (cI, N, .inl (upd f k x)))]) hx hb hK hP hD hS 0 0 rfl rfl hk (by first | decide | omega) dX9_put_13 rfl (fun H locs hP hD hS => ?_)
      exact q_mretv (S := Unit) (w1 := fun _ => [(a, .inl (cI, N, .inl (upd f k x)))]) () hx hb hr hlocks hP hS dX9_put_14 (trivial)

set_option maxHeartbeats 4000000 in
set_option maxRecDepth 100000 in
theorem c_X9_valueOf (l : Launch) {D : va_G} {cI cB cZ : ClassId} {k : Nat} {cc : Nat} {o : Nat} {x : Int32} {se : Int32} (hk : k < 4) (ho : o ≤ 8) : Met l yX9_valueOf wsX9_valueOf ({ frames := 0, cells := 0, slots := 0, locals := 0 } : Room) (va_Pc [.int (nI k), .int x, .int (nI cc), .int se, .int (nI o)] (q_B D (q_tys cI cB cZ) [])) (vp_Si (fun r => r = q_wby k (x + (se - nI 50)) cc o)) 0 0 (fun _ => False) := by
  refine Met.ofW (cc := cX9_valueOf) (maxL := 5) (ret := (some .int)) (by decide) rfl ?_
  intro p e s m args below meth c s₁ B hml hv
  obtain ⟨rfl, hP, hK⟩ := hv
  have hx := B.exec
  have hb := B.bytes
  have hr := B.returns
  have hts := atoms_spec (ws := wsX9_valueOf) B.pre
  have hown : s.vm.findClass RX9 = some m.cls := findClass_of_methodNamed B.named
  have hlocks := B.notSynchronized
  have hP : va_P D vwCl [] s.heap := hP
  have hl := lv_entry ([.int (nI k), .int x, .int (nI cc), .int se, .int (nI o)]) (n := 5) (Nat.le_of_ble_eq_true rfl)
  rw [lg_entry_eq]
  generalize (lg_sl ([.int (nI k), .int x, .int (nI cc), .int se, .int (nI o)]) ++ List.replicate (5 - (lg_sl ([.int (nI k), .int x, .int (nI cc), .int se, .int (nI o)])).length) Slot.unset).toArray = ls at hl ⊢
  have hl : lv_has ls 5 [(0, .int (nI k)), (1, .int x), (2, .int (nI cc)), (3, .int se), (4, .int (nI o))] := hl
  refine lv_iload_n hx hb dX9_valueOf_0 rfl (lv_at hl 0 rfl) ?_
  refine lv_iconst (v := nI 1) hx hb dX9_valueOf_1 (by decide) ?_
  refine q_nne (tgt := 12) hx hb dX9_valueOf_2 (by decide) (by omega) (by omega) (fun c_2 => ?_) (fun c_2 => ?_)
  · refine lv_iload_n hx hb dX9_valueOf_12 rfl (lv_at hl 0 rfl) ?_
    refine lv_iconst (v := nI 2) hx hb dX9_valueOf_13 (by decide) ?_
    refine q_nne (tgt := 24) hx hb dX9_valueOf_14 (by decide) (by omega) (by omega) (fun c_14 => ?_) (fun c_14 => ?_)
    · refine lv_iload_n hx hb dX9_valueOf_24 rfl (lv_at hl 0 rfl) ?_
      refine lv_iconst (v := nI 3) hx hb dX9_valueOf_25 (by decide) ?_
      refine q_nne (tgt := 37) hx hb dX9_valueOf_26 (by decide) (by omega) (by omega) (fun c_26 => ?_) (fun c_26 => ?_)
      · refine lv_iload_n hx hb dX9_valueOf_37 rfl (lv_at hl 1 rfl) ?_
        refine lv_iload_n hx hb dX9_valueOf_38 rfl (lv_at hl 3 rfl) ?_
        refine lv_bipush (v := nI 50) hx hb dX9_valueOf_39 (by decide) ?_
        refine q_isub (v := se - (nI 50)) hx hb dX9_valueOf_41 (rfl) ?_
        refine q_iadd (v := x + (se - (nI 50))) hx hb dX9_valueOf_42 (rfl) ?_
        refine lv_iload_n hx hb dX9_valueOf_43 rfl (lv_at hl 2 rfl) ?_
        refine lv_bipush (v := nI 9) hx hb dX9_valueOf_44 (by decide) ?_
        refine q_isub (v := (nI cc) - (nI 9)) hx hb dX9_valueOf_46 (rfl) ?_
        refine lv_iload hx hb dX9_valueOf_47 (lv_at hl 4 rfl) ?_
        refine q_imul (v := ((nI cc) - (nI 9)) * (nI o)) hx hb dX9_valueOf_49 (rfl) ?_
        refine q_iadd (v := (x + (se - (nI 50))) + (((nI cc) - (nI 9)) * (nI o))) hx hb dX9_valueOf_50 (rfl) ?_
        exact q_zret (v := (x + (se - (nI 50))) + (((nI cc) - (nI 9)) * (nI o))) hx hb hr hlocks (rfl) (show (x + (se - (nI 50))) + (((nI cc) - (nI 9)) * (nI o)) = q_wby k (x + (se - nI 50)) cc o from by unfold q_wby; (repeat' split) <;> first | rfl | omega) dX9_valueOf_51
      · refine lv_iload hx hb dX9_valueOf_29 (lv_at hl 4 rfl) ?_
        refine lv_iconst (v := nI 2) hx hb dX9_valueOf_31 (by decide) ?_
        refine q_nge (tgt := 37) hx hb dX9_valueOf_32 (by decide) (by omega) (by omega) (fun c_32 => ?_) (fun c_32 => ?_)
        · refine lv_iload_n hx hb dX9_valueOf_37 rfl (lv_at hl 1 rfl) ?_
          refine lv_iload_n hx hb dX9_valueOf_38 rfl (lv_at hl 3 rfl) ?_
          refine lv_bipush (v := nI 50) hx hb dX9_valueOf_39 (by decide) ?_
          refine q_isub (v := se - (nI 50)) hx hb dX9_valueOf_41 (rfl) ?_
          refine q_iadd (v := x + (se - (nI 50))) hx hb dX9_valueOf_42 (rfl) ?_
          refine lv_iload_n hx hb dX9_valueOf_43 rfl (lv_at hl 2 rfl) ?_
          refine lv_bipush (v := nI 9) hx hb dX9_valueOf_44 (by decide) ?_
          refine q_isub (v := (nI cc) - (nI 9)) hx hb dX9_valueOf_46 (rfl) ?_
          refine lv_iload hx hb dX9_valueOf_47 (lv_at hl 4 rfl) ?_
          refine q_imul (v := ((nI cc) - (nI 9)) * (nI o)) hx hb dX9_valueOf_49 (rfl) ?_
          refine q_iadd (v := (x + (se - (nI 50))) + (((nI cc) - (nI 9)) * (nI o))) hx hb dX9_valueOf_50 (rfl) ?_
          exact q_zret (v := (x + (se - (nI 50))) + (((nI cc) - (nI 9)) * (nI o))) hx hb hr hlocks (rfl) (show (x + (se - (nI 50))) + (((nI cc) - (nI 9)) * (nI o)) = q_wby k (x + (se - nI 50)) cc o from by unfold q_wby; (repeat' split) <;> first | rfl | omega) dX9_valueOf_51
        · refine lv_iconst (v := nI 0) hx hb dX9_valueOf_35 (by decide) ?_
          exact q_zret (v := nI 0) hx hb hr hlocks (rfl) (show nI 0 = q_wby k (x + (se - nI 50)) cc o from by unfold q_wby; (repeat' split) <;> first | rfl | omega) dX9_valueOf_36
    · refine lv_iload hx hb dX9_valueOf_17 (lv_at hl 4 rfl) ?_
      refine q_zle (tgt := 24) hx hb dX9_valueOf_19 (by decide) (by omega) (fun c_19 => ?_) (fun c_19 => ?_)
      · refine lv_iload_n hx hb dX9_valueOf_24 rfl (lv_at hl 0 rfl) ?_
        refine lv_iconst (v := nI 3) hx hb dX9_valueOf_25 (by decide) ?_
        refine q_nne (tgt := 37) hx hb dX9_valueOf_26 (by decide) (by omega) (by omega) (fun c_26 => ?_) (fun c_26 => ?_)
        · refine lv_iload_n hx hb dX9_valueOf_37 rfl (lv_at hl 1 rfl) ?_
          refine lv_iload_n hx hb dX9_valueOf_38 rfl (lv_at hl 3 rfl) ?_
          refine lv_bipush (v := nI 50) hx hb dX9_valueOf_39 (by decide) ?_
          refine q_isub (v := se - (nI 50)) hx hb dX9_valueOf_41 (rfl) ?_
          refine q_iadd (v := x + (se - (nI 50))) hx hb dX9_valueOf_42 (rfl) ?_
          refine lv_iload_n hx hb dX9_valueOf_43 rfl (lv_at hl 2 rfl) ?_
          refine lv_bipush (v := nI 9) hx hb dX9_valueOf_44 (by decide) ?_
          refine q_isub (v := (nI cc) - (nI 9)) hx hb dX9_valueOf_46 (rfl) ?_
          refine lv_iload hx hb dX9_valueOf_47 (lv_at hl 4 rfl) ?_
          refine q_imul (v := ((nI cc) - (nI 9)) * (nI o)) hx hb dX9_valueOf_49 (rfl) ?_
          refine q_iadd (v := (x + (se - (nI 50))) + (((nI cc) - (nI 9)) * (nI o))) hx hb dX9_valueOf_50 (rfl) ?_
          exact q_zret (v := (x + (se - (nI 50))) + (((nI cc) - (nI 9)) * (nI o))) hx hb hr hlocks (rfl) (show (x + (se - (nI 50))) + (((nI cc) - (nI 9)) * (nI o)) = q_wby k (x + (se - nI 50)) cc o from by unfold q_wby; (repeat' split) <;> first | rfl | omega) dX9_valueOf_51
        · refine lv_iload hx hb dX9_valueOf_29 (lv_at hl 4 rfl) ?_
          refine lv_iconst (v := nI 2) hx hb dX9_valueOf_31 (by decide) ?_
          refine q_nge (tgt := 37) hx hb dX9_valueOf_32 (by decide) (by omega) (by omega) (fun c_32 => ?_) (fun c_32 => ?_)
          · refine lv_iload_n hx hb dX9_valueOf_37 rfl (lv_at hl 1 rfl) ?_
            refine lv_iload_n hx hb dX9_valueOf_38 rfl (lv_at hl 3 rfl) ?_
            refine lv_bipush (v := nI 50) hx hb dX9_valueOf_39 (by decide) ?_
            refine q_isub (v := se - (nI 50)) hx hb dX9_valueOf_41 (rfl) ?_
            refine q_iadd (v := x + (se - (nI 50))) hx hb dX9_valueOf_42 (rfl) ?_
            refine lv_iload_n hx hb dX9_valueOf_43 rfl (lv_at hl 2 rfl) ?_
            refine lv_bipush (v := nI 9) hx hb dX9_valueOf_44 (by decide) ?_
            refine q_isub (v := (nI cc) - (nI 9)) hx hb dX9_valueOf_46 (rfl) ?_
            refine lv_iload hx hb dX9_valueOf_47 (lv_at hl 4 rfl) ?_
            refine q_imul (v := ((nI cc) - (nI 9)) * (nI o)) hx hb dX9_valueOf_49 (rfl) ?_
            refine q_iadd (v := (x + (se - (nI 50))) + (((nI cc) - (nI 9)) * (nI o))) hx hb dX9_valueOf_50 (rfl) ?_
            exact q_zret (v := (x + (se - (nI 50))) + (((nI cc) - (nI 9)) * (nI o))) hx hb hr hlocks (rfl) (show (x + (se - (nI 50))) + (((nI cc) - (nI 9)) * (nI o)) = q_wby k (x + (se - nI 50)) cc o from by unfold q_wby; (repeat' split) <;> first | rfl | omega) dX9_valueOf_51
          · refine lv_iconst (v := nI 0) hx hb dX9_valueOf_35 (by decide) ?_
            exact q_zret (v := nI 0) hx hb hr hlocks (rfl) (show nI 0 = q_wby k (x + (se - nI 50)) cc o from by unfold q_wby; (repeat' split) <;> first | rfl | omega) dX9_valueOf_36
      · refine lv_iconst (v := (-1 : Int32)) hx hb dX9_valueOf_22 (by decide) ?_
        exact q_zret (v := (-1 : Int32)) hx hb hr hlocks (rfl) (show (-1 : Int32) = q_wby k (x + (se - nI 50)) cc o from by unfold q_wby; (repeat' split) <;> first | rfl | omega) dX9_valueOf_23
  · refine lv_iload hx hb dX9_valueOf_5 (lv_at hl 4 rfl) ?_
    refine q_zle (tgt := 12) hx hb dX9_valueOf_7 (by decide) (by omega) (fun c_7 => ?_) (fun c_7 => ?_)
    · refine lv_iload_n hx hb dX9_valueOf_12 rfl (lv_at hl 0 rfl) ?_
      refine lv_iconst (v := nI 2) hx hb dX9_valueOf_13 (by decide) ?_
      refine q_nne (tgt := 24) hx hb dX9_valueOf_14 (by decide) (by omega) (by omega) (fun c_14 => ?_) (fun c_14 => ?_)
      · refine lv_iload_n hx hb dX9_valueOf_24 rfl (lv_at hl 0 rfl) ?_
        refine lv_iconst (v := nI 3) hx hb dX9_valueOf_25 (by decide) ?_
        refine q_nne (tgt := 37) hx hb dX9_valueOf_26 (by decide) (by omega) (by omega) (fun c_26 => ?_) (fun c_26 => ?_)
        · refine lv_iload_n hx hb dX9_valueOf_37 rfl (lv_at hl 1 rfl) ?_
          refine lv_iload_n hx hb dX9_valueOf_38 rfl (lv_at hl 3 rfl) ?_
          refine lv_bipush (v := nI 50) hx hb dX9_valueOf_39 (by decide) ?_
          refine q_isub (v := se - (nI 50)) hx hb dX9_valueOf_41 (rfl) ?_
          refine q_iadd (v := x + (se - (nI 50))) hx hb dX9_valueOf_42 (rfl) ?_
          refine lv_iload_n hx hb dX9_valueOf_43 rfl (lv_at hl 2 rfl) ?_
          refine lv_bipush (v := nI 9) hx hb dX9_valueOf_44 (by decide) ?_
          refine q_isub (v := (nI cc) - (nI 9)) hx hb dX9_valueOf_46 (rfl) ?_
          refine lv_iload hx hb dX9_valueOf_47 (lv_at hl 4 rfl) ?_
          refine q_imul (v := ((nI cc) - (nI 9)) * (nI o)) hx hb dX9_valueOf_49 (rfl) ?_
          refine q_iadd (v := (x + (se - (nI 50))) + (((nI cc) - (nI 9)) * (nI o))) hx hb dX9_valueOf_50 (rfl) ?_
          exact q_zret (v := (x + (se - (nI 50))) + (((nI cc) - (nI 9)) * (nI o))) hx hb hr hlocks (rfl) (show (x + (se - (nI 50))) + (((nI cc) - (nI 9)) * (nI o)) = q_wby k (x + (se - nI 50)) cc o from by unfold q_wby; (repeat' split) <;> first | rfl | omega) dX9_valueOf_51
        · refine lv_iload hx hb dX9_valueOf_29 (lv_at hl 4 rfl) ?_
          refine lv_iconst (v := nI 2) hx hb dX9_valueOf_31 (by decide) ?_
          refine q_nge (tgt := 37) hx hb dX9_valueOf_32 (by decide) (by omega) (by omega) (fun c_32 => ?_) (fun c_32 => ?_)
          · refine lv_iload_n hx hb dX9_valueOf_37 rfl (lv_at hl 1 rfl) ?_
            refine lv_iload_n hx hb dX9_valueOf_38 rfl (lv_at hl 3 rfl) ?_
            refine lv_bipush (v := nI 50) hx hb dX9_valueOf_39 (by decide) ?_
            refine q_isub (v := se - (nI 50)) hx hb dX9_valueOf_41 (rfl) ?_
            refine q_iadd (v := x + (se - (nI 50))) hx hb dX9_valueOf_42 (rfl) ?_
            refine lv_iload_n hx hb dX9_valueOf_43 rfl (lv_at hl 2 rfl) ?_
            refine lv_bipush (v := nI 9) hx hb dX9_valueOf_44 (by decide) ?_
            refine q_isub (v := (nI cc) - (nI 9)) hx hb dX9_valueOf_46 (rfl) ?_
            refine lv_iload hx hb dX9_valueOf_47 (lv_at hl 4 rfl) ?_
            refine q_imul (v := ((nI cc) - (nI 9)) * (nI o)) hx hb dX9_valueOf_49 (rfl) ?_
            refine q_iadd (v := (x + (se - (nI 50))) + (((nI cc) - (nI 9)) * (nI o))) hx hb dX9_valueOf_50 (rfl) ?_
            exact q_zret (v := (x + (se - (nI 50))) + (((nI cc) - (nI 9)) * (nI o))) hx hb hr hlocks (rfl) (show (x + (se - (nI 50))) + (((nI cc) - (nI 9)) * (nI o)) = q_wby k (x + (se - nI 50)) cc o from by unfold q_wby; (repeat' split) <;> first | rfl | omega) dX9_valueOf_51
          · refine lv_iconst (v := nI 0) hx hb dX9_valueOf_35 (by decide) ?_
            exact q_zret (v := nI 0) hx hb hr hlocks (rfl) (show nI 0 = q_wby k (x + (se - nI 50)) cc o from by unfold q_wby; (repeat' split) <;> first | rfl | omega) dX9_valueOf_36
      · refine lv_iload hx hb dX9_valueOf_17 (lv_at hl 4 rfl) ?_
        refine q_zle (tgt := 24) hx hb dX9_valueOf_19 (by decide) (by omega) (fun c_19 => ?_) (fun c_19 => ?_)
        · refine lv_iload_n hx hb dX9_valueOf_24 rfl (lv_at hl 0 rfl) ?_
          refine lv_iconst (v := nI 3) hx hb dX9_valueOf_25 (by decide) ?_
          refine q_nne (tgt := 37) hx hb dX9_valueOf_26 (by decide) (by omega) (by omega) (fun c_26 => ?_) (fun c_26 => ?_)
          · refine lv_iload_n hx hb dX9_valueOf_37 rfl (lv_at hl 1 rfl) ?_
            refine lv_iload_n hx hb dX9_valueOf_38 rfl (lv_at hl 3 rfl) ?_
            refine lv_bipush (v := nI 50) hx hb dX9_valueOf_39 (by decide) ?_
            refine q_isub (v := se - (nI 50)) hx hb dX9_valueOf_41 (rfl) ?_
            refine q_iadd (v := x + (se - (nI 50))) hx hb dX9_valueOf_42 (rfl) ?_
            refine lv_iload_n hx hb dX9_valueOf_43 rfl (lv_at hl 2 rfl) ?_
            refine lv_bipush (v := nI 9) hx hb dX9_valueOf_44 (by decide) ?_
            refine q_isub (v := (nI cc) - (nI 9)) hx hb dX9_valueOf_46 (rfl) ?_
            refine lv_iload hx hb dX9_valueOf_47 (lv_at hl 4 rfl) ?_
            refine q_imul (v := ((nI cc) - (nI 9)) * (nI o)) hx hb dX9_valueOf_49 (rfl) ?_
            refine q_iadd (v := (x + (se - (nI 50))) + (((nI cc) - (nI 9)) * (nI o))) hx hb dX9_valueOf_50 (rfl) ?_
            exact q_zret (v := (x + (se - (nI 50))) + (((nI cc) - (nI 9)) * (nI o))) hx hb hr hlocks (rfl) (show (x + (se - (nI 50))) + (((nI cc) - (nI 9)) * (nI o)) = q_wby k (x + (se - nI 50)) cc o from by unfold q_wby; (repeat' split) <;> first | rfl | omega) dX9_valueOf_51
          · refine lv_iload hx hb dX9_valueOf_29 (lv_at hl 4 rfl) ?_
            refine lv_iconst (v := nI 2) hx hb dX9_valueOf_31 (by decide) ?_
            refine q_nge (tgt := 37) hx hb dX9_valueOf_32 (by decide) (by omega) (by omega) (fun c_32 => ?_) (fun c_32 => ?_)
            · refine lv_iload_n hx hb dX9_valueOf_37 rfl (lv_at hl 1 rfl) ?_
              refine lv_iload_n hx hb dX9_valueOf_38 rfl (lv_at hl 3 rfl) ?_
              refine lv_bipush (v := nI 50) hx hb dX9_valueOf_39 (by decide) ?_
              refine q_isub (v := se - (nI 50)) hx hb dX9_valueOf_41 (rfl) ?_
              refine q_iadd (v := x + (se - (nI 50))) hx hb dX9_valueOf_42 (rfl) ?_
              refine lv_iload_n hx hb dX9_valueOf_43 rfl (lv_at hl 2 rfl) ?_
              refine lv_bipush (v := nI 9) hx hb dX9_valueOf_44 (by decide) ?_
              refine q_isub (v := (nI cc) - (nI 9)) hx hb dX9_valueOf_46 (rfl) ?_
              refine lv_iload hx hb dX9_valueOf_47 (lv_at hl 4 rfl) ?_
              refine q_imul (v := ((nI cc) - (nI 9)) * (nI o)) hx hb dX9_valueOf_49 (rfl) ?_
              refine q_iadd (v := (x + (se - (nI 50))) + (((nI cc) - (nI 9)) * (nI o))) hx hb dX9_valueOf_50 (rfl) ?_
              exact q_zret (v := (x + (se - (nI 50))) + (((nI cc) - (nI 9)) * (nI o))) hx hb hr hlocks (rfl) (show (x + (se - (nI 50))) + (((nI cc) - (nI 9)) * (nI o)) = q_wby k (x + (se - nI 50)) cc o from by unfold q_wby; (repeat' split) <;> first | rfl | omega) dX9_valueOf_51
            · refine lv_iconst (v := nI 0) hx hb dX9_valueOf_35 (by decide) ?_
              exact q_zret (v := nI 0) hx hb hr hlocks (rfl) (show nI 0 = q_wby k (x + (se - nI 50)) cc o from by unfold q_wby; (repeat' split) <;> first | rfl | omega) dX9_valueOf_36
        · refine lv_iconst (v := (-1 : Int32)) hx hb dX9_valueOf_22 (by decide) ?_
          exact q_zret (v := (-1 : Int32)) hx hb hr hlocks (rfl) (show (-1 : Int32) = q_wby k (x + (se - nI 50)) cc o from by unfold q_wby; (repeat' split) <;> first | rfl | omega) dX9_valueOf_23
    · refine lv_iconst (v := nI 0) hx hb dX9_valueOf_10 (by decide) ?_
      exact q_zret (v := nI 0) hx hb hr hlocks (rfl) (show nI 0 = q_wby k (x + (se - nI 50)) cc o from by unfold q_wby; (repeat' split) <;> first | rfl | omega) dX9_valueOf_11

set_option maxHeartbeats 4000000 in
set_option maxRecDepth 100000 in
theorem c_X9_isEither (l : Launch) {D : va_G} {cI cB cZ : ClassId} {w : Int32} : Met l yX9_isEither wsX9_isEither ({ frames := 0, cells := 0, slots := 0, locals := 0 } : Room) (va_Pc [.int w] (q_B D (q_tys cI cB cZ) [])) (vp_Si (fun r => r = bI (q_eit w))) 0 0 (fun _ => False) := by
  refine Met.ofW (cc := cX9_isEither) (maxL := 1) (ret := (some .boolean)) (by decide) rfl ?_
  intro p e s m args below meth c s₁ B hml hv
  obtain ⟨rfl, hP, hK⟩ := hv
  have hx := B.exec
  have hb := B.bytes
  have hr := B.returns
  have hts := atoms_spec (ws := wsX9_isEither) B.pre
  have hown : s.vm.findClass RX9 = some m.cls := findClass_of_methodNamed B.named
  have hlocks := B.notSynchronized
  have hP : va_P D vwCl [] s.heap := hP
  have hl := lv_entry ([.int w]) (n := 1) (Nat.le_of_ble_eq_true rfl)
  rw [lg_entry_eq]
  generalize (lg_sl ([.int w]) ++ List.replicate (1 - (lg_sl ([.int w])).length) Slot.unset).toArray = ls at hl ⊢
  have hl : lv_has ls 1 [(0, .int w)] := hl
  refine lv_iload_n hx hb dX9_isEither_0 rfl (lv_at hl 0 rfl) ?_
  refine lv_if_eq (x := w) (tgt := 9) hx hb dX9_isEither_1 (by decide) (fun c_1 => ?_) (fun c_1 => ?_)
  · refine lv_iconst (v := nI 1) hx hb dX9_isEither_9 (by decide) ?_
    refine lv_goto (tgt := 14) hx hb dX9_isEither_10 (by decide) ?_
    exact q_zret (v := nI 1) hx hb hr hlocks (q_nar1) (show nI 1 = bI (q_eit w) from by rw [c_1]; decide) dX9_isEither_14
  · refine lv_iload_n hx hb dX9_isEither_4 rfl (lv_at hl 0 rfl) ?_
    refine lv_iconst (v := nI 1) hx hb dX9_isEither_5 (by decide) ?_
    refine lv_icmp_ne (x := w) (y := nI 1) (tgt := 13) hx hb dX9_isEither_6 (by decide) (fun c_6 => ?_) (fun c_6 => ?_)
    · refine lv_iconst (v := nI 0) hx hb dX9_isEither_13 (by decide) ?_
      exact q_zret (v := nI 0) hx hb hr hlocks (q_nar0) (show nI 0 = bI (q_eit w) from by rw [show q_eit w = false from decide_eq_false (fun z => z.elim c_1 c_6)]; rfl) dX9_isEither_14
    · refine lv_iconst (v := nI 1) hx hb dX9_isEither_9 (by decide) ?_
      refine lv_goto (tgt := 14) hx hb dX9_isEither_10 (by decide) ?_
      exact q_zret (v := nI 1) hx hb hr hlocks (q_nar1) (show nI 1 = bI (q_eit w) from by rw [show w = 1 from c_6]; decide) dX9_isEither_14

set_option maxHeartbeats 4000000 in
set_option maxRecDepth 100000 in
theorem c_J6_bitCount_0f7a4 (l : Launch) {D : va_G} {cI cB cZ : ClassId} {k : Nat} (hk : k < 256) : Met l yJ6_bitCount_0f7a4 wsJ6_bitCount_0f7a4 ({ frames := 0, cells := 0, slots := 0, locals := 0 } : Room) (va_Pc [.int (nI k)] (q_B D (q_tys cI cB cZ) [])) (vp_Si (fun r => r = nI (pop8 k))) 0 0 (fun _ => False) := by
  refine Met.ofW (cc := cJ6_bitCount_0f7a4) (maxL := 1) (ret := (some .int)) (by decide) rfl ?_
  intro p e s m args below meth c s₁ B hml hv
  obtain ⟨rfl, hP, hK⟩ := hv
  have hx := B.exec
  have hb := B.bytes
  have hr := B.returns
  have hts := atoms_spec (ws := wsJ6_bitCount_0f7a4) B.pre
  have hown : s.vm.findClass RJ6 = some m.cls := findClass_of_methodNamed B.named
  have hlocks := B.notSynchronized
  have hP : va_P D vwCl [] s.heap := hP
  have hl := lv_entry ([.int (nI k)]) (n := 1) (Nat.le_of_ble_eq_true rfl)
  rw [lg_entry_eq]
  generalize (lg_sl ([.int (nI k)]) ++ List.replicate (1 - (lg_sl ([.int (nI k)])).length) Slot.unset).toArray = ls at hl ⊢
  have hl : lv_has ls 1 [(0, .int (nI k))] := hl
  refine lv_iload_n hx hb dJ6_bitCount_0f7a4_0 rfl (lv_at hl 0 rfl) ?_
  refine lv_iload_n hx hb dJ6_bitCount_0f7a4_1 rfl (lv_at hl 0 rfl) ?_
  refine lv_iconst (v := nI 1) hx hb dJ6_bitCount_0f7a4_2 (by decide) ?_
  refine q_iushr (v := ((nI k).toUInt32 >>> ((nI 1).toUInt32 &&& Int32.toUInt32 31)).toInt32) hx hb dJ6_bitCount_0f7a4_3 (rfl) ?_
  refine lv_ldcw (v := (1431655765 : Int32)) hx hb hown (hts (.constant RJ6 265 (1431655765)) (by decide +kernel)) dJ6_bitCount_0f7a4_4 ?_
  refine q_iand (v := (((nI k).toUInt32 >>> ((nI 1).toUInt32 &&& Int32.toUInt32 31)).toInt32) &&& (1431655765 : Int32)) hx hb dJ6_bitCount_0f7a4_7 (rfl) ?_
  refine q_isub (v := bc1 (nI k)) hx hb dJ6_bitCount_0f7a4_8 (rfl) ?_
  refine lv_istore_n (lv' := [(0, .int (bc1 (nI k)))]) hx hb dJ6_bitCount_0f7a4_9 rfl hl (by decide) rfl (fun ls hl => ?_)
  refine lv_iload_n hx hb dJ6_bitCount_0f7a4_10 rfl (lv_at hl 0 rfl) ?_
  refine lv_ldcw (v := (858993459 : Int32)) hx hb hown (hts (.constant RJ6 266 (858993459)) (by decide +kernel)) dJ6_bitCount_0f7a4_11 ?_
  refine q_iand (v := (bc1 (nI k)) &&& (858993459 : Int32)) hx hb dJ6_bitCount_0f7a4_14 (rfl) ?_
  refine lv_iload_n hx hb dJ6_bitCount_0f7a4_15 rfl (lv_at hl 0 rfl) ?_
  refine lv_iconst (v := nI 2) hx hb dJ6_bitCount_0f7a4_16 (by decide) ?_
  refine q_iushr (v := ((bc1 (nI k)).toUInt32 >>> ((nI 2).toUInt32 &&& Int32.toUInt32 31)).toInt32) hx hb dJ6_bitCount_0f7a4_17 (rfl) ?_
  refine lv_ldcw (v := (858993459 : Int32)) hx hb hown (hts (.constant RJ6 266 (858993459)) (by decide +kernel)) dJ6_bitCount_0f7a4_18 ?_
  refine q_iand (v := (((bc1 (nI k)).toUInt32 >>> ((nI 2).toUInt32 &&& Int32.toUInt32 31)).toInt32) &&& (858993459 : Int32)) hx hb dJ6_bitCount_0f7a4_21 (rfl) ?_
  refine q_iadd (v := bc2 (bc1 (nI k))) hx hb dJ6_bitCount_0f7a4_22 (rfl) ?_
  refine lv_istore_n (lv' := [(0, .int (bc2 (bc1 (nI k))))]) hx hb dJ6_bitCount_0f7a4_23 rfl hl (by decide) rfl (fun ls hl => ?_)
  refine lv_iload_n hx hb dJ6_bitCount_0f7a4_24 rfl (lv_at hl 0 rfl) ?_
  refine lv_iload_n hx hb dJ6_bitCount_0f7a4_25 rfl (lv_at hl 0 rfl) ?_
  refine lv_iconst (v := nI 4) hx hb dJ6_bitCount_0f7a4_26 (by decide) ?_
  refine q_iushr (v := ((bc2 (bc1 (nI k))).toUInt32 >>> ((nI 4).toUInt32 &&& Int32.toUInt32 31)).toInt32) hx hb dJ6_bitCount_0f7a4_27 (rfl) ?_
  refine q_iadd (v := (bc2 (bc1 (nI k))) + (((bc2 (bc1 (nI k))).toUInt32 >>> ((nI 4).toUInt32 &&& Int32.toUInt32 31)).toInt32)) hx hb dJ6_bitCount_0f7a4_28 (rfl) ?_
  refine lv_ldcw (v := (252645135 : Int32)) hx hb hown (hts (.constant RJ6 267 (252645135)) (by decide +kernel)) dJ6_bitCount_0f7a4_29 ?_
  refine q_iand (v := bc3 (bc2 (bc1 (nI k)))) hx hb dJ6_bitCount_0f7a4_32 (rfl) ?_
  refine lv_istore_n (lv' := [(0, .int (bc3 (bc2 (bc1 (nI k)))))]) hx hb dJ6_bitCount_0f7a4_33 rfl hl (by decide) rfl (fun ls hl => ?_)
  refine lv_iload_n hx hb dJ6_bitCount_0f7a4_34 rfl (lv_at hl 0 rfl) ?_
  refine lv_iload_n hx hb dJ6_bitCount_0f7a4_35 rfl (lv_at hl 0 rfl) ?_
  refine lv_bipush (v := nI 8) hx hb dJ6_bitCount_0f7a4_36 (by decide) ?_
  refine q_iushr (v := ((bc3 (bc2 (bc1 (nI k)))).toUInt32 >>> ((nI 8).toUInt32 &&& Int32.toUInt32 31)).toInt32) hx hb dJ6_bitCount_0f7a4_38 (rfl) ?_
  refine q_iadd (v := bc4 (bc3 (bc2 (bc1 (nI k))))) hx hb dJ6_bitCount_0f7a4_39 (rfl) ?_
  refine lv_istore_n (lv' := [(0, .int (bc4 (bc3 (bc2 (bc1 (nI k))))))]) hx hb dJ6_bitCount_0f7a4_40 rfl hl (by decide) rfl (fun ls hl => ?_)
  refine lv_iload_n hx hb dJ6_bitCount_0f7a4_41 rfl (lv_at hl 0 rfl) ?_
  refine lv_iload_n hx hb dJ6_bitCount_0f7a4_42 rfl (lv_at hl 0 rfl) ?_
  refine lv_bipush (v := nI 16) hx hb dJ6_bitCount_0f7a4_43 (by decide) ?_
  refine q_iushr (v := ((bc4 (bc3 (bc2 (bc1 (nI k))))).toUInt32 >>> ((nI 16).toUInt32 &&& Int32.toUInt32 31)).toInt32) hx hb dJ6_bitCount_0f7a4_45 (rfl) ?_
  refine q_iadd (v := bc5 (bc4 (bc3 (bc2 (bc1 (nI k)))))) hx hb dJ6_bitCount_0f7a4_46 (rfl) ?_
  refine lv_istore_n (lv' := [(0, .int (bc5 (bc4 (bc3 (bc2 (bc1 (nI k)))))))]) hx hb dJ6_bitCount_0f7a4_47 rfl hl (by decide) rfl (fun ls hl => ?_)
  refine lv_iload_n hx hb dJ6_bitCount_0f7a4_48 rfl (lv_at hl 0 rfl) ?_
  refine lv_bipush (v := nI 63) hx hb dJ6_bitCount_0f7a4_49 (by decide) ?_
  refine q_iand (v := nI (pop8 k)) hx hb dJ6_bitCount_0f7a4_51 (q_bc hk) ?_
  exact q_zret (v := nI (pop8 k)) hx hb hr hlocks (rfl) (show nI (pop8 k) = nI (pop8 k) from rfl) dJ6_bitCount_0f7a4_52

set_option maxHeartbeats 4000000 in
set_option maxRecDepth 100000 in
theorem c_X4_trait (l : Launch) {D : va_G} {cI cB cZ : ClassId} {hp : Nat} {ht : Nat} {i : Nat} {k : Nat} {sz : Int32} {fo : Int32} {ss : Int32} {tr : Nat → Int32} (hi : i < 7) (hk : k < 5) : Met l yX4_trait wsX4_trait ({ frames := 0, cells := 0, slots := 0, locals := 0 } : Room) (va_Pc [.ref hp, .int (nI i), .int (nI k)] (q_B D (q_tys cI cB cZ) [(hp, .inr (4, [.ref ht, .int sz, .int fo, .int ss])), (ht, .inl (cI, 35, .inl tr))])) (vp_Si (fun r => r = tr (i * 5 + k))) 0 0 (fun _ => False) := by
  refine Met.ofW (cc := cX4_trait) (maxL := 4) (ret := (some .int)) (by decide) rfl ?_
  intro p e s m args below meth c s₁ B hml hv
  obtain ⟨rfl, hP, hK⟩ := hv
  have hx := B.exec
  have hb := B.bytes
  have hr := B.returns
  have hts := atoms_spec (ws := wsX4_trait) B.pre
  have hown : s.vm.findClass RX4 = some m.cls := findClass_of_methodNamed B.named
  have hlocks := B.notSynchronized
  have hin4 : ∀ w ∈ u_ws RX4 TX4 4, w ∈ wsX4_trait := by decide +kernel
  have hP : va_P D vwCl [(hp, .inr (4, [.ref ht, .int sz, .int fo, .int ss])), (ht, .inl (cI, 35, .inl tr))] s.heap := hP
  have hl := lv_entry ([.ref hp, .int (nI i), .int (nI k)]) (n := 4) (Nat.le_of_ble_eq_true rfl)
  rw [lg_entry_eq]
  generalize (lg_sl ([.ref hp, .int (nI i), .int (nI k)]) ++ List.replicate (4 - (lg_sl ([.ref hp, .int (nI i), .int (nI k)])).length) Slot.unset).toArray = ls at hl ⊢
  have hl : lv_has ls 4 [(0, .ref hp), (1, .int (nI i)), (2, .int (nI k))] := hl
  refine lv_iload_n hx hb dX4_trait_0 rfl (lv_at hl 1 rfl) ?_
  refine lv_iconst (v := nI 5) hx hb dX4_trait_1 (by decide) ?_
  refine q_imul (v := nI (i * 5)) hx hb dX4_trait_2 (q_mul _ _) ?_
  refine lv_iload_n hx hb dX4_trait_3 rfl (lv_at hl 2 rfl) ?_
  refine q_iadd (v := nI ((i * 5) + k)) hx hb dX4_trait_4 (nI_add _ _) ?_
  refine lv_istore_n (lv' := [(3, .int (nI ((i * 5) + k))), (0, .ref hp), (1, .int (nI i)), (2, .int (nI k))]) hx hb dX4_trait_5 rfl hl (by decide) rfl (fun ls hl => ?_)
  refine lv_iload_n hx hb dX4_trait_6 rfl (lv_at hl 0 rfl) ?_
  refine q_zlt (tgt := 28) hx hb dX4_trait_7 (by decide) (by omega) (fun c_7 => ?_) (fun c_7 => ?_)
  · exact absurd c_7 (Nat.not_lt_zero _)
  · refine lv_iload_n hx hb dX4_trait_10 rfl (lv_at hl 0 rfl) ?_
    refine lv_aload_n hx hb dX4_trait_11 rfl (lv_at hl 1 rfl) ?_
    refine q_get (ci := 4) (CC := RX4) (T := TX4) (N := 4) (v := .ref ht) hx hb hts hin4 hown hK hP 0 rfl rfl 0 (by decide) (hts (.fieldLink RX4 9 "DearAsMany$People" "traits" "[I") (by decide +kernel)) rfl rfl dX4_trait_12 ?_
    refine q_alen hx hb hK hP 1 0 rfl rfl dX4_trait_15 ?_
    refine q_nge (tgt := 28) hx hb dX4_trait_16 (by decide) (by omega) (by omega) (fun c_16 => ?_) (fun c_16 => ?_)
    · exfalso; omega
    · refine lv_aload_n hx hb dX4_trait_19 rfl (lv_at hl 1 rfl) ?_
      refine q_get (ci := 4) (CC := RX4) (T := TX4) (N := 4) (v := .ref ht) hx hb hts hin4 hown hK hP 0 rfl rfl 0 (by decide) (hts (.fieldLink RX4 9 "DearAsMany$People" "traits" "[I") (by decide +kernel)) rfl rfl dX4_trait_20 ?_
      refine lv_iload_n hx hb dX4_trait_23 rfl (lv_at hl 0 rfl) ?_
      refine q_ald hx hb hK hP 1 0 rfl rfl (by omega) (by first | decide | omega) dX4_trait_24 ?_
      refine lv_goto (tgt := 29) hx hb dX4_trait_25 (by decide) ?_
      exact q_zret (v := tr ((i * 5) + k)) hx hb hr hlocks (rfl) (show tr ((i * 5) + k) = tr (i * 5 + k) from rfl) dX4_trait_29

set_option maxHeartbeats 4000000 in
set_option maxRecDepth 100000 in
theorem c_X4_sets (l : Launch) {D : va_G} {cI cB cZ : ClassId} {hp : Nat} {ht : Nat} {n : Nat} {fo : Int32} {ss : Int32} (hn : n < 31) : Met l yX4_sets wsX4_sets ({ frames := 0, cells := 0, slots := 0, locals := 0 } : Room) (va_Pc [.ref hp] (q_B D (q_tys cI cB cZ) [(hp, .inr (4, [.ref ht, .int (nI n), .int fo, .int ss]))])) (vp_Si (fun r => r = nI (2 ^ n))) 0 0 (fun _ => False) := by
  refine Met.ofW (cc := cX4_sets) (maxL := 1) (ret := (some .int)) (by decide) rfl ?_
  intro p e s m args below meth c s₁ B hml hv
  obtain ⟨rfl, hP, hK⟩ := hv
  have hx := B.exec
  have hb := B.bytes
  have hr := B.returns
  have hts := atoms_spec (ws := wsX4_sets) B.pre
  have hown : s.vm.findClass RX4 = some m.cls := findClass_of_methodNamed B.named
  have hlocks := B.notSynchronized
  have hin4 : ∀ w ∈ u_ws RX4 TX4 4, w ∈ wsX4_sets := by decide +kernel
  have hP : va_P D vwCl [(hp, .inr (4, [.ref ht, .int (nI n), .int fo, .int ss]))] s.heap := hP
  have hl := lv_entry ([.ref hp]) (n := 1) (Nat.le_of_ble_eq_true rfl)
  rw [lg_entry_eq]
  generalize (lg_sl ([.ref hp]) ++ List.replicate (1 - (lg_sl ([.ref hp])).length) Slot.unset).toArray = ls at hl ⊢
  have hl : lv_has ls 1 [(0, .ref hp)] := hl
  refine lv_iconst (v := nI 1) hx hb dX4_sets_0 (by decide) ?_
  refine lv_aload_n hx hb dX4_sets_1 rfl (lv_at hl 0 rfl) ?_
  refine q_get (ci := 4) (CC := RX4) (T := TX4) (N := 4) (v := .int (nI n)) hx hb hts hin4 hown hK hP 0 rfl rfl 1 (by decide) (hts (.fieldLink RX4 15 "DearAsMany$People" "size" "I") (by decide +kernel)) rfl rfl dX4_sets_2 ?_
  refine q_ishl (v := nI (2 ^ n)) hx hb dX4_sets_5 (q_shl1 hn) ?_
  exact q_zret (v := nI (2 ^ n)) hx hb hr hlocks (rfl) (show nI (2 ^ n) = nI (2 ^ n) from rfl) dX4_sets_6

set_option maxHeartbeats 4000000 in
set_option maxRecDepth 100000 in
theorem c_X2_owns (l : Launch) {D : va_G} {cI cB cZ : ClassId} {hn : Nat} {hq : Nat} {i : Nat} {ow : Nat} (hi : i < 31) (how : ow < 2147483648) : Met l yX2_owns wsX2_owns ({ frames := 2, cells := 0, slots := 0, locals := 41 } : Room) (va_Pc [.ref hn, .int (nI i)] (q_B D (q_tys cI cB cZ) [(hn, .inr (2, [.ref hq, .int (nI ow)]))])) (vp_Si (fun r => r = bI (ow.testBit i))) 0 0 (fun _ => False) := by
  refine Met.ofW (cc := cX2_owns) (maxL := 2) (ret := (some .boolean)) (by decide) rfl ?_
  intro p e s m args below meth c s₁ B hml hv
  obtain ⟨rfl, hP, hK⟩ := hv
  have hx := B.exec
  have hb := B.bytes
  have hr := B.returns
  have hts := atoms_spec (ws := wsX2_owns) B.pre
  have hown : s.vm.findClass RX2 = some m.cls := findClass_of_methodNamed B.named
  have hlocks := B.notSynchronized
  have hin2 : ∀ w ∈ u_ws RX2 TX2 2, w ∈ wsX2_owns := by decide +kernel
  have hP : va_P D vwCl [(hn, .inr (2, [.ref hq, .int (nI ow)]))] s.heap := hP
  have hl := lv_entry ([.ref hn, .int (nI i)]) (n := 2) (Nat.le_of_ble_eq_true rfl)
  rw [lg_entry_eq]
  generalize (lg_sl ([.ref hn, .int (nI i)]) ++ List.replicate (2 - (lg_sl ([.ref hn, .int (nI i)])).length) Slot.unset).toArray = ls at hl ⊢
  have hl : lv_has ls 2 [(0, .ref hn), (1, .int (nI i))] := hl
  refine lv_aload_n hx hb dX2_owns_0 rfl (lv_at hl 0 rfl) ?_
  refine q_get (ci := 2) (CC := RX2) (T := TX2) (N := 2) (v := .int (nI ow)) hx hb hts hin2 hown hK hP 0 rfl rfl 1 (by decide) (hts (.fieldLink RX2 15 "DearAsMany$Holding" "owners" "I") (by decide +kernel)) rfl rfl dX2_owns_1 ?_
  refine lv_iload_n hx hb dX2_owns_4 rfl (lv_at hl 1 rfl) ?_
  refine q_ni (As := [.int (nI ow), .int (nI i)]) (rest := []) ⟨hx, hb, hml, hown, hts⟩ (c_X9_has l (D := D) (cI := cI) (cB := cB) (cZ := cZ) (S := ow) (i := i) (by first | assumption | exact Nat.zero_le _ | omega) (by first | assumption | exact Nat.zero_le _ | omega)) ⟨va_cnB 2 hts gX2_owns_X9_has_n32 rfl rfl rfl (hK.2.at 5 rfl) (hts (.initialized RX9) (by decide +kernel)) (by decide +kernel) ⟨Nat.le_of_ble_eq_true rfl, Nat.le_of_ble_eq_true rfl⟩, hts (.static yX9_has) (by decide +kernel), trivial⟩ hK hP [] rfl rfl hl.1 rfl (Nat.le_of_ble_eq_true rfl) dX2_owns_5 ⟨Nat.zero_le _, Nat.zero_le _⟩ (fun r_5 hr_5 => ?_)
  have hr_5 : bI (ow.testBit i) = r_5 := (show r_5 = bI (ow.testBit i) from hr_5).symm
  subst hr_5
  exact q_zret (v := bI (ow.testBit i)) hx hb hr hlocks (q_narB _) (show bI (ow.testBit i) = bI (ow.testBit i) from rfl) dX2_owns_8

set_option maxHeartbeats 4000000 in
set_option maxRecDepth 100000 in
theorem c_X2_penniesOf (l : Launch) {D : va_G} {cI cB cZ : ClassId} {hn : Nat} {hq : Nat} {i : Nat} {ow : Int32} {pn : Nat → Int32} (hi : i < 7) : Met l yX2_penniesOf wsX2_penniesOf ({ frames := 1, cells := 0, slots := 0, locals := 21 } : Room) (va_Pc [.ref hn, .int (nI i)] (q_B D (q_tys cI cB cZ) [(hn, .inr (2, [.ref hq, .int ow])), (hq, .inl (cI, 7, .inl pn))])) (vp_Si (fun r => r = pn i)) 0 0 (fun _ => False) := by
  refine Met.ofW (cc := cX2_penniesOf) (maxL := 2) (ret := (some .int)) (by decide) rfl ?_
  intro p e s m args below meth c s₁ B hml hv
  obtain ⟨rfl, hP, hK⟩ := hv
  have hx := B.exec
  have hb := B.bytes
  have hr := B.returns
  have hts := atoms_spec (ws := wsX2_penniesOf) B.pre
  have hown : s.vm.findClass RX2 = some m.cls := findClass_of_methodNamed B.named
  have hlocks := B.notSynchronized
  have hin2 : ∀ w ∈ u_ws RX2 TX2 2, w ∈ wsX2_penniesOf := by decide +kernel
  have hP : va_P D vwCl [(hn, .inr (2, [.ref hq, .int ow])), (hq, .inl (cI, 7, .inl pn))] s.heap := hP
  have hl := lv_entry ([.ref hn, .int (nI i)]) (n := 2) (Nat.le_of_ble_eq_true rfl)
  rw [lg_entry_eq]
  generalize (lg_sl ([.ref hn, .int (nI i)]) ++ List.replicate (2 - (lg_sl ([.ref hn, .int (nI i)])).length) Slot.unset).toArray = ls at hl ⊢
  have hl : lv_has ls 2 [(0, .ref hn), (1, .int (nI i))] := hl
  refine lv_aload_n hx hb dX2_penniesOf_0 rfl (lv_at hl 0 rfl) ?_
  refine q_get (ci := 2) (CC := RX2) (T := TX2) (N := 2) (v := .ref hq) hx hb hts hin2 hown hK hP 0 rfl rfl 0 (by decide) (hts (.fieldLink RX2 9 "DearAsMany$Holding" "pennies" "[I") (by decide +kernel)) rfl rfl dX2_penniesOf_1 ?_
  refine lv_iload_n hx hb dX2_penniesOf_4 rfl (lv_at hl 1 rfl) ?_
  refine q_ni (As := [.ref hq, .int (nI i)]) (rest := []) ⟨hx, hb, hml, hown, hts⟩ (c_X9_at l (D := D) (cI := cI) (cB := cB) (cZ := cZ) (a := hq) (N := 7) (k := i) (f := pn) (by first | assumption | exact Nat.zero_le _ | omega) (by first | assumption | exact Nat.zero_le _ | omega)) ⟨va_cnB 2 hts gX2_penniesOf_X9_at_n36 rfl rfl rfl (hK.2.at 6 rfl) (hts (.initialized RX9) (by decide +kernel)) (by decide +kernel) ⟨Nat.le_of_ble_eq_true rfl, Nat.le_of_ble_eq_true rfl⟩, hts (.static yX9_at) (by decide +kernel), trivial⟩ hK hP [1] rfl rfl hl.1 rfl (Nat.le_of_ble_eq_true rfl) dX2_penniesOf_5 ⟨Nat.zero_le _, Nat.zero_le _⟩ (fun r_5 hr_5 => ?_)
  have hr_5 : pn i = r_5 := (show r_5 = pn i from hr_5).symm
  subst hr_5
  exact q_zret (v := pn i) hx hb hr hlocks (rfl) (show pn i = pn i from rfl) dX2_penniesOf_8

set_option maxHeartbeats 4000000 in
set_option maxRecDepth 100000 in
/-- OTHERS -/
theorem c_X3_othersOf (l : Launch) {D : va_G} {cI cB cZ : ClassId} {hm : Nat} {hp : Nat} {hh : Nat} {ht : Nat} {n : Nat} {fo : Int32} {ss : Int32} {tr : Nat → Int32} {hom : Nat → Int32} {T : Nat → Nat → Nat} {i : Nat} {S : Nat} (hT : q_Tr T n tr) (hB : q_Bd T n) (hH : q_Hm T n hom) (hi : i < n) (hS : S < 2 ^ n) : Met l yX3_othersOf wsX3_othersOf ({ frames := 1, cells := 0, slots := 0, locals := 23 } : Room) (va_Pc [.ref hm, .int (nI i), .int (nI S)] (q_B D (q_tys cI cB cZ) [(hm, .inr (3, [.ref hp, .ref hh])), (hp, .inr (4, [.ref ht, .int (nI n), .int fo, .int ss])), (ht, .inl (cI, 35, .inl tr)), (hh, .inl (cI, 128, .inl hom))])) (vp_Si (fun r => r = nI (q_oth T n i S))) 0 0 (fun _ => False) := by
  refine Met.ofW (cc := cX3_othersOf) (maxL := 3) (ret := (some .int)) (by decide) rfl ?_
  intro p e s m args below meth c s₁ B hml hv
  obtain ⟨rfl, hP, hK⟩ := hv
  have hx := B.exec
  have hb := B.bytes
  have hr := B.returns
  have hts := atoms_spec (ws := wsX3_othersOf) B.pre
  have hown : s.vm.findClass RX3 = some m.cls := findClass_of_methodNamed B.named
  have hlocks := B.notSynchronized
  have hin3 : ∀ w ∈ u_ws RX3 TX3 2, w ∈ wsX3_othersOf := by decide +kernel
  have hP : va_P D vwCl [(hm, .inr (3, [.ref hp, .ref hh])), (hp, .inr (4, [.ref ht, .int (nI n), .int fo, .int ss])), (ht, .inl (cI, 35, .inl tr)), (hh, .inl (cI, 128, .inl hom))] s.heap := hP
  have hl := lv_entry ([.ref hm, .int (nI i), .int (nI S)]) (n := 3) (Nat.le_of_ble_eq_true rfl)
  rw [lg_entry_eq]
  generalize (lg_sl ([.ref hm, .int (nI i), .int (nI S)]) ++ List.replicate (3 - (lg_sl ([.ref hm, .int (nI i), .int (nI S)])).length) Slot.unset).toArray = ls at hl ⊢
  have hl : lv_has ls 3 [(0, .ref hm), (1, .int (nI i)), (2, .int (nI S))] := hl
  refine lv_aload_n hx hb dX3_othersOf_0 rfl (lv_at hl 0 rfl) ?_
  refine q_get (ci := 3) (CC := RX3) (T := TX3) (N := 2) (v := .ref hh) hx hb hts hin3 hown hK hP 0 rfl rfl 1 (by decide) (hts (.fieldLink RX3 18 "DearAsMany$Market" "homes" "[I") (by decide +kernel)) rfl rfl dX3_othersOf_1 ?_
  refine lv_iload_n hx hb dX3_othersOf_4 rfl (lv_at hl 2 rfl) ?_
  refine q_ni (As := [.ref hh, .int (nI S)]) (rest := []) ⟨hx, hb, hml, hown, hts⟩ (c_X9_at l (D := D) (cI := cI) (cB := cB) (cZ := cZ) (a := hh) (N := 128) (k := S) (f := hom) (q_S128 hB hS) (by decide)) ⟨va_cnB 2 hts gX3_othersOf_X9_at_n38 rfl rfl rfl (hK.2.at 9 rfl) (hts (.initialized RX9) (by decide +kernel)) (by decide +kernel) ⟨Nat.le_of_ble_eq_true rfl, Nat.le_of_ble_eq_true rfl⟩, hts (.static yX9_at) (by decide +kernel), trivial⟩ hK hP [3] rfl rfl hl.1 rfl (Nat.le_of_ble_eq_true rfl) dX3_othersOf_5 ⟨Nat.zero_le _, Nat.zero_le _⟩ (fun r_5 hr_5 => ?_)
  have hr_5 : nI (q_hm T S n) = r_5 := (Eq.trans (show r_5 = hom S from hr_5) (hH S hS)).symm
  subst hr_5
  refine lv_aload_n hx hb dX3_othersOf_8 rfl (lv_at hl 0 rfl) ?_
  refine q_get (ci := 3) (CC := RX3) (T := TX3) (N := 2) (v := .ref hp) hx hb hts hin3 hown hK hP 0 rfl rfl 0 (by decide) (hts (.fieldLink RX3 12 "DearAsMany$Market" "people" "LDearAsMany$People;") (by decide +kernel)) rfl rfl dX3_othersOf_9 ?_
  refine lv_iload_n hx hb dX3_othersOf_12 rfl (lv_at hl 1 rfl) ?_
  refine lv_iconst (v := nI 3) hx hb dX3_othersOf_13 (by decide) ?_
  refine q_vi (As := [.int (nI i), .int (nI 3)]) (rest := [.int (nI (q_hm T S n))]) ⟨hx, hb, hml, hown, hts⟩ (c_X4_trait l (D := D) (cI := cI) (cB := cB) (cZ := cZ) (hp := hp) (ht := ht) (i := i) (k := 3) (sz := nI n) (fo := fo) (ss := ss) (tr := tr) (by have := hB.1; omega) (by decide)) (cwV 2 hts gX3_othersOf_X4_trait rfl rfl rfl (by decide +kernel) ⟨Nat.le_of_ble_eq_true rfl, Nat.le_of_ble_eq_true rfl⟩) hK hP [1, 2] rfl 1 4 rfl rfl rfl rfl hl.1 rfl (Nat.le_of_ble_eq_true rfl) dX3_othersOf_14 ⟨Nat.zero_le _, Nat.zero_le _⟩ (fun r_14 hr_14 => ?_)
  have hr_14 : nI (T i 3) = r_14 := (Eq.trans (show r_14 = tr (i * 5 + 3) from hr_14) (hT i hi 3 (by decide))).symm
  subst hr_14
  refine q_ni (As := [.int (nI (T i 3))]) (rest := [.int (nI (q_hm T S n))]) ⟨hx, hb, hml, hown, hts⟩ (c_X9_bit l (D := D) (cI := cI) (cB := cB) (cZ := cZ) (i := T i 3) (by have := (hB.2 i hi).2.2.2.1; omega)) ⟨va_cnB 1 hts gX3_othersOf_X9_bit_n34 rfl rfl rfl (hK.2.at 8 rfl) (hts (.initialized RX9) (by decide +kernel)) (by decide +kernel) ⟨Nat.le_of_ble_eq_true rfl, Nat.le_of_ble_eq_true rfl⟩, hts (.static yX9_bit) (by decide +kernel), trivial⟩ hK hP [] rfl rfl hl.1 rfl (Nat.le_of_ble_eq_true rfl) dX3_othersOf_17 ⟨Nat.zero_le _, Nat.zero_le _⟩ (fun r_17 hr_17 => ?_)
  have hr_17 : nI (2 ^ (T i 3)) = r_17 := (show r_17 = nI (2 ^ (T i 3)) from hr_17).symm
  subst hr_17
  refine lv_iconst (v := (-1 : Int32)) hx hb dX3_othersOf_20 (by decide) ?_
  refine q_ixor (v := (nI (2 ^ (T i 3))) ^^^ (-1 : Int32)) hx hb dX3_othersOf_21 (rfl) ?_
  refine q_iand (v := nI (q_wo (q_hm T S n) (T i 3))) hx hb dX3_othersOf_22 (q_mask8 (q_hm_lt' hB) (hB.2 i hi).2.2.2.1) ?_
  refine q_si (As := [.int (nI (q_wo (q_hm T S n) (T i 3)))]) (rest := []) ⟨hx, hb, hml, hown, hts⟩ (c_J6_bitCount_0f7a4 l (D := D) (cI := cI) (cB := cB) (cZ := cZ) (k := q_wo (q_hm T S n) (T i 3)) (q_wo_lt (q_hm_lt' hB))) (va_cwS 1 hts gX3_othersOf_J6_bitCount_0f7a4 rfl rfl rfl (by decide +kernel) ⟨Nat.le_of_ble_eq_true rfl, Nat.le_of_ble_eq_true rfl⟩) hK hP [] rfl rfl hl.1 rfl (Nat.le_of_ble_eq_true rfl) dX3_othersOf_23 ⟨Nat.zero_le _, Nat.zero_le _⟩ (fun r_23 hr_23 => ?_)
  have hr_23 : nI (pop8 (q_wo (q_hm T S n) (T i 3))) = r_23 := (show r_23 = nI (pop8 (q_wo (q_hm T S n) (T i 3))) from hr_23).symm
  subst hr_23
  exact q_zret (v := nI (pop8 (q_wo (q_hm T S n) (T i 3)))) hx hb hr hlocks (rfl) (show nI (pop8 (q_wo (q_hm T S n) (T i 3))) = nI (q_oth T n i S) from rfl) dX3_othersOf_26

set_option maxHeartbeats 4000000 in
set_option maxRecDepth 100000 in
theorem c_X3_valueWith (l : Launch) {D : va_G} {cI cB cZ : ClassId} {hm : Nat} {hp : Nat} {hh : Nat} {ht : Nat} {n : Nat} {fo : Int32} {ss : Int32} {tr : Nat → Int32} {hom : Nat → Int32} {T : Nat → Nat → Nat} {i : Nat} {o : Nat} {se : Int32} (hT : q_Tr T n tr) (hB : q_Bd T n) (hH : q_Hm T n hom) (hi : i < n) (ho : o ≤ 8) : Met l yX3_valueWith wsX3_valueWith ({ frames := 1, cells := 0, slots := 0, locals := 24 } : Room) (va_Pc [.ref hm, .int (nI i), .int (nI o), .int se] (q_B D (q_tys cI cB cZ) [(hm, .inr (3, [.ref hp, .ref hh])), (hp, .inr (4, [.ref ht, .int (nI n), .int fo, .int ss])), (ht, .inl (cI, 35, .inl tr)), (hh, .inl (cI, 128, .inl hom))])) (vp_Si (fun r => r = q_wby (T i 0) (nI (T i 1) + (se - nI 50)) (T i 2) o)) 0 0 (fun _ => False) := by
  refine Met.ofW (cc := cX3_valueWith) (maxL := 4) (ret := (some .int)) (by decide) rfl ?_
  intro p e s m args below meth c s₁ B hml hv
  obtain ⟨rfl, hP, hK⟩ := hv
  have hx := B.exec
  have hb := B.bytes
  have hr := B.returns
  have hts := atoms_spec (ws := wsX3_valueWith) B.pre
  have hown : s.vm.findClass RX3 = some m.cls := findClass_of_methodNamed B.named
  have hlocks := B.notSynchronized
  have hin3 : ∀ w ∈ u_ws RX3 TX3 2, w ∈ wsX3_valueWith := by decide +kernel
  have hP : va_P D vwCl [(hm, .inr (3, [.ref hp, .ref hh])), (hp, .inr (4, [.ref ht, .int (nI n), .int fo, .int ss])), (ht, .inl (cI, 35, .inl tr)), (hh, .inl (cI, 128, .inl hom))] s.heap := hP
  have hl := lv_entry ([.ref hm, .int (nI i), .int (nI o), .int se]) (n := 4) (Nat.le_of_ble_eq_true rfl)
  rw [lg_entry_eq]
  generalize (lg_sl ([.ref hm, .int (nI i), .int (nI o), .int se]) ++ List.replicate (4 - (lg_sl ([.ref hm, .int (nI i), .int (nI o), .int se])).length) Slot.unset).toArray = ls at hl ⊢
  have hl : lv_has ls 4 [(0, .ref hm), (1, .int (nI i)), (2, .int (nI o)), (3, .int se)] := hl
  refine lv_aload_n hx hb dX3_valueWith_0 rfl (lv_at hl 0 rfl) ?_
  refine q_get (ci := 3) (CC := RX3) (T := TX3) (N := 2) (v := .ref hp) hx hb hts hin3 hown hK hP 0 rfl rfl 0 (by decide) (hts (.fieldLink RX3 12 "DearAsMany$Market" "people" "LDearAsMany$People;") (by decide +kernel)) rfl rfl dX3_valueWith_1 ?_
  refine lv_iload_n hx hb dX3_valueWith_4 rfl (lv_at hl 1 rfl) ?_
  refine lv_iconst (v := nI 0) hx hb dX3_valueWith_5 (by decide) ?_
  refine q_vi (As := [.int (nI i), .int (nI 0)]) (rest := []) ⟨hx, hb, hml, hown, hts⟩ (c_X4_trait l (D := D) (cI := cI) (cB := cB) (cZ := cZ) (hp := hp) (ht := ht) (i := i) (k := 0) (sz := nI n) (fo := fo) (ss := ss) (tr := tr) (by have := hB.1; omega) (by decide)) (cwV 2 hts gX3_valueWith_X4_trait rfl rfl rfl (by decide +kernel) ⟨Nat.le_of_ble_eq_true rfl, Nat.le_of_ble_eq_true rfl⟩) hK hP [1, 2] rfl 1 4 rfl rfl rfl rfl hl.1 rfl (Nat.le_of_ble_eq_true rfl) dX3_valueWith_6 ⟨Nat.zero_le _, Nat.zero_le _⟩ (fun r_6 hr_6 => ?_)
  have hr_6 : nI (T i 0) = r_6 := (Eq.trans (show r_6 = tr (i * 5 + 0) from hr_6) (hT i hi 0 (by decide))).symm
  subst hr_6
  refine lv_aload_n hx hb dX3_valueWith_9 rfl (lv_at hl 0 rfl) ?_
  refine q_get (ci := 3) (CC := RX3) (T := TX3) (N := 2) (v := .ref hp) hx hb hts hin3 hown hK hP 0 rfl rfl 0 (by decide) (hts (.fieldLink RX3 12 "DearAsMany$Market" "people" "LDearAsMany$People;") (by decide +kernel)) rfl rfl dX3_valueWith_10 ?_
  refine lv_iload_n hx hb dX3_valueWith_13 rfl (lv_at hl 1 rfl) ?_
  refine lv_iconst (v := nI 1) hx hb dX3_valueWith_14 (by decide) ?_
  refine q_vi (As := [.int (nI i), .int (nI 1)]) (rest := [.int (nI (T i 0))]) ⟨hx, hb, hml, hown, hts⟩ (c_X4_trait l (D := D) (cI := cI) (cB := cB) (cZ := cZ) (hp := hp) (ht := ht) (i := i) (k := 1) (sz := nI n) (fo := fo) (ss := ss) (tr := tr) (by have := hB.1; omega) (by decide)) (cwV 2 hts gX3_valueWith_X4_trait rfl rfl rfl (by decide +kernel) ⟨Nat.le_of_ble_eq_true rfl, Nat.le_of_ble_eq_true rfl⟩) hK hP [1, 2] rfl 1 4 rfl rfl rfl rfl hl.1 rfl (Nat.le_of_ble_eq_true rfl) dX3_valueWith_15 ⟨Nat.zero_le _, Nat.zero_le _⟩ (fun r_15 hr_15 => ?_)
  have hr_15 : nI (T i 1) = r_15 := (Eq.trans (show r_15 = tr (i * 5 + 1) from hr_15) (hT i hi 1 (by decide))).symm
  subst hr_15
  refine lv_aload_n hx hb dX3_valueWith_18 rfl (lv_at hl 0 rfl) ?_
  refine q_get (ci := 3) (CC := RX3) (T := TX3) (N := 2) (v := .ref hp) hx hb hts hin3 hown hK hP 0 rfl rfl 0 (by decide) (hts (.fieldLink RX3 12 "DearAsMany$Market" "people" "LDearAsMany$People;") (by decide +kernel)) rfl rfl dX3_valueWith_19 ?_
  refine lv_iload_n hx hb dX3_valueWith_22 rfl (lv_at hl 1 rfl) ?_
  refine lv_iconst (v := nI 2) hx hb dX3_valueWith_23 (by decide) ?_
  refine q_vi (As := [.int (nI i), .int (nI 2)]) (rest := [.int (nI (T i 1)), .int (nI (T i 0))]) ⟨hx, hb, hml, hown, hts⟩ (c_X4_trait l (D := D) (cI := cI) (cB := cB) (cZ := cZ) (hp := hp) (ht := ht) (i := i) (k := 2) (sz := nI n) (fo := fo) (ss := ss) (tr := tr) (by have := hB.1; omega) (by decide)) (cwV 2 hts gX3_valueWith_X4_trait rfl rfl rfl (by decide +kernel) ⟨Nat.le_of_ble_eq_true rfl, Nat.le_of_ble_eq_true rfl⟩) hK hP [1, 2] rfl 1 4 rfl rfl rfl rfl hl.1 rfl (Nat.le_of_ble_eq_true rfl) dX3_valueWith_24 ⟨Nat.zero_le _, Nat.zero_le _⟩ (fun r_24 hr_24 => ?_)
  have hr_24 : nI (T i 2) = r_24 := (Eq.trans (show r_24 = tr (i * 5 + 2) from hr_24) (hT i hi 2 (by decide))).symm
  subst hr_24
  refine lv_iload_n hx hb dX3_valueWith_27 rfl (lv_at hl 3 rfl) ?_
  refine lv_iload_n hx hb dX3_valueWith_28 rfl (lv_at hl 2 rfl) ?_
  refine q_ni (As := [.int (nI (T i 0)), .int (nI (T i 1)), .int (nI (T i 2)), .int se, .int (nI o)]) (rest := []) ⟨hx, hb, hml, hown, hts⟩ (c_X9_valueOf l (D := D) (cI := cI) (cB := cB) (cZ := cZ) (k := T i 0) (cc := T i 2) (o := o) (x := nI (T i 1)) (se := se) ((hB.2 i hi).1) (by first | assumption | exact Nat.zero_le _ | omega)) ⟨va_cnB 5 hts gX3_valueWith_X9_valueOf_n58 rfl rfl rfl (hK.2.at 11 rfl) (hts (.initialized RX9) (by decide +kernel)) (by decide +kernel) ⟨Nat.le_of_ble_eq_true rfl, Nat.le_of_ble_eq_true rfl⟩, hts (.static yX9_valueOf) (by decide +kernel), trivial⟩ hK hP [] rfl rfl hl.1 rfl (Nat.le_of_ble_eq_true rfl) dX3_valueWith_29 ⟨Nat.zero_le _, Nat.zero_le _⟩ (fun r_29 hr_29 => ?_)
  have hr_29 : q_wby (T i 0) ((nI (T i 1)) + (se - nI 50)) (T i 2) o = r_29 := (show r_29 = q_wby (T i 0) ((nI (T i 1)) + (se - nI 50)) (T i 2) o from hr_29).symm
  subst hr_29
  exact q_zret (v := q_wby (T i 0) ((nI (T i 1)) + (se - nI 50)) (T i 2) o) hx hb hr hlocks (rfl) (show q_wby (T i 0) ((nI (T i 1)) + (se - nI 50)) (T i 2) o = q_wby (T i 0) (nI (T i 1) + (se - nI 50)) (T i 2) o from rfl) dX3_valueWith_32

set_option maxHeartbeats 4000000 in
set_option maxRecDepth 100000 in
/-- WORTH -/
theorem c_X3_valueTo (l : Launch) {D : va_G} {cI cB cZ : ClassId} {hm : Nat} {hp : Nat} {hh : Nat} {ht : Nat} {n : Nat} {fo : Int32} {ss : Int32} {tr : Nat → Int32} {hom : Nat → Int32} {T : Nat → Nat → Nat} {i : Nat} {S : Nat} {se : Int32} (hT : q_Tr T n tr) (hB : q_Bd T n) (hH : q_Hm T n hom) (hi : i < n) (hS : S < 2 ^ n) : Met l yX3_valueTo wsX3_valueTo ({ frames := 2, cells := 0, slots := 0, locals := 47 } : Room) (va_Pc [.ref hm, .int (nI i), .int (nI S), .int se] (q_B D (q_tys cI cB cZ) [(hm, .inr (3, [.ref hp, .ref hh])), (hp, .inr (4, [.ref ht, .int (nI n), .int fo, .int ss])), (ht, .inl (cI, 35, .inl tr)), (hh, .inl (cI, 128, .inl hom))])) (vp_Si (fun r => r = q_wor T n se i S)) 0 0 (fun _ => False) := by
  refine Met.ofW (cc := cX3_valueTo) (maxL := 4) (ret := (some .int)) (by decide) rfl ?_
  intro p e s m args below meth c s₁ B hml hv
  obtain ⟨rfl, hP, hK⟩ := hv
  have hx := B.exec
  have hb := B.bytes
  have hr := B.returns
  have hts := atoms_spec (ws := wsX3_valueTo) B.pre
  have hown : s.vm.findClass RX3 = some m.cls := findClass_of_methodNamed B.named
  have hlocks := B.notSynchronized
  have hP : va_P D vwCl [(hm, .inr (3, [.ref hp, .ref hh])), (hp, .inr (4, [.ref ht, .int (nI n), .int fo, .int ss])), (ht, .inl (cI, 35, .inl tr)), (hh, .inl (cI, 128, .inl hom))] s.heap := hP
  have hl := lv_entry ([.ref hm, .int (nI i), .int (nI S), .int se]) (n := 4) (Nat.le_of_ble_eq_true rfl)
  rw [lg_entry_eq]
  generalize (lg_sl ([.ref hm, .int (nI i), .int (nI S), .int se]) ++ List.replicate (4 - (lg_sl ([.ref hm, .int (nI i), .int (nI S), .int se])).length) Slot.unset).toArray = ls at hl ⊢
  have hl : lv_has ls 4 [(0, .ref hm), (1, .int (nI i)), (2, .int (nI S)), (3, .int se)] := hl
  refine lv_aload_n hx hb dX3_valueTo_0 rfl (lv_at hl 0 rfl) ?_
  refine lv_iload_n hx hb dX3_valueTo_1 rfl (lv_at hl 1 rfl) ?_
  refine lv_aload_n hx hb dX3_valueTo_2 rfl (lv_at hl 0 rfl) ?_
  refine lv_iload_n hx hb dX3_valueTo_3 rfl (lv_at hl 1 rfl) ?_
  refine lv_iload_n hx hb dX3_valueTo_4 rfl (lv_at hl 2 rfl) ?_
  refine q_vi (As := [.int (nI i), .int (nI S)]) (rest := [.int (nI i), .ref hm]) ⟨hx, hb, hml, hown, hts⟩ (c_X3_othersOf l (D := D) (cI := cI) (cB := cB) (cZ := cZ) (hm := hm) (hp := hp) (hh := hh) (ht := ht) (n := n) (fo := fo) (ss := ss) (tr := tr) (hom := hom) (T := T) (i := i) (S := S) (by first | assumption | exact Nat.zero_le _ | omega) (by first | assumption | exact Nat.zero_le _ | omega) (by first | assumption | exact Nat.zero_le _ | omega) (by first | assumption | exact Nat.zero_le _ | omega) (by first | assumption | exact Nat.zero_le _ | omega)) (cwV 2 hts gX3_valueTo_X3_othersOf rfl rfl rfl (by decide +kernel) ⟨Nat.le_of_ble_eq_true rfl, Nat.le_of_ble_eq_true rfl⟩) hK hP [0, 1, 2, 3] rfl 0 3 rfl rfl rfl rfl hl.1 rfl (Nat.le_of_ble_eq_true rfl) dX3_valueTo_5 ⟨Nat.zero_le _, Nat.zero_le _⟩ (fun r_5 hr_5 => ?_)
  have hr_5 : nI (q_oth T n i S) = r_5 := (show r_5 = nI (q_oth T n i S) from hr_5).symm
  subst hr_5
  refine lv_iload_n hx hb dX3_valueTo_8 rfl (lv_at hl 3 rfl) ?_
  refine q_vi (As := [.int (nI i), .int (nI (q_oth T n i S)), .int se]) (rest := []) ⟨hx, hb, hml, hown, hts⟩ (c_X3_valueWith l (D := D) (cI := cI) (cB := cB) (cZ := cZ) (hm := hm) (hp := hp) (hh := hh) (ht := ht) (n := n) (fo := fo) (ss := ss) (tr := tr) (hom := hom) (T := T) (i := i) (o := q_oth T n i S) (se := se) (by first | assumption | exact Nat.zero_le _ | omega) (by first | assumption | exact Nat.zero_le _ | omega) (by first | assumption | exact Nat.zero_le _ | omega) (by first | assumption | exact Nat.zero_le _ | omega) (q_oth_le _ _ _ _)) (cwV 3 hts gX3_valueTo_X3_valueWith rfl rfl rfl (by decide +kernel) ⟨Nat.le_of_ble_eq_true rfl, Nat.le_of_ble_eq_true rfl⟩) hK hP [0, 1, 2, 3] rfl 0 3 rfl rfl rfl rfl hl.1 rfl (Nat.le_of_ble_eq_true rfl) dX3_valueTo_9 ⟨Nat.zero_le _, Nat.zero_le _⟩ (fun r_9 hr_9 => ?_)
  have hr_9 : q_wby (T i 0) (nI (T i 1) + (se - nI 50)) (T i 2) (q_oth T n i S) = r_9 := (show r_9 = q_wby (T i 0) (nI (T i 1) + (se - nI 50)) (T i 2) (q_oth T n i S) from hr_9).symm
  subst hr_9
  exact q_zret (v := q_wby (T i 0) (nI (T i 1) + (se - nI 50)) (T i 2) (q_oth T n i S)) hx hb hr hlocks (rfl) (show q_wby (T i 0) (nI (T i 1) + (se - nI 50)) (T i 2) (q_oth T n i S) = q_wor T n se i S from rfl) dX3_valueTo_12

set_option maxHeartbeats 4000000 in
set_option maxRecDepth 100000 in
/-- who owns none WOULD buy -/
theorem c_X3_wants (l : Launch) {D : va_G} {cI cB cZ : ClassId} {hm : Nat} {hp : Nat} {hh : Nat} {ht : Nat} {n : Nat} {fo : Int32} {ss : Int32} {tr : Nat → Int32} {hom : Nat → Int32} {T : Nat → Nat → Nat} {i : Nat} {S : Nat} {se : Int32} (hT : q_Tr T n tr) (hB : q_Bd T n) (hH : q_Hm T n hom) (hi : i < n) (hS : S < 2 ^ n) : Met l yX3_wants wsX3_wants ({ frames := 2, cells := 0, slots := 0, locals := 47 } : Room) (va_Pc [.ref hm, .int (nI i), .int (nI S), .int se] (q_B D (q_tys cI cB cZ) [(hm, .inr (3, [.ref hp, .ref hh])), (hp, .inr (4, [.ref ht, .int (nI n), .int fo, .int ss])), (ht, .inl (cI, 35, .inl tr)), (hh, .inl (cI, 128, .inl hom))])) (vp_Si (fun r => r = bI (q_want T n se i S))) 0 0 (fun _ => False) := by
  refine Met.ofW (cc := cX3_wants) (maxL := 5) (ret := (some .boolean)) (by decide) rfl ?_
  intro p e s m args below meth c s₁ B hml hv
  obtain ⟨rfl, hP, hK⟩ := hv
  have hx := B.exec
  have hb := B.bytes
  have hr := B.returns
  have hts := atoms_spec (ws := wsX3_wants) B.pre
  have hown : s.vm.findClass RX3 = some m.cls := findClass_of_methodNamed B.named
  have hlocks := B.notSynchronized
  have hP : va_P D vwCl [(hm, .inr (3, [.ref hp, .ref hh])), (hp, .inr (4, [.ref ht, .int (nI n), .int fo, .int ss])), (ht, .inl (cI, 35, .inl tr)), (hh, .inl (cI, 128, .inl hom))] s.heap := hP
  have hl := lv_entry ([.ref hm, .int (nI i), .int (nI S), .int se]) (n := 5) (Nat.le_of_ble_eq_true rfl)
  rw [lg_entry_eq]
  generalize (lg_sl ([.ref hm, .int (nI i), .int (nI S), .int se]) ++ List.replicate (5 - (lg_sl ([.ref hm, .int (nI i), .int (nI S), .int se])).length) Slot.unset).toArray = ls at hl ⊢
  have hl : lv_has ls 5 [(0, .ref hm), (1, .int (nI i)), (2, .int (nI S)), (3, .int se)] := hl
  refine lv_aload_n hx hb dX3_wants_0 rfl (lv_at hl 0 rfl) ?_
  refine lv_iload_n hx hb dX3_wants_1 rfl (lv_at hl 1 rfl) ?_
  refine lv_iload_n hx hb dX3_wants_2 rfl (lv_at hl 2 rfl) ?_
  refine q_vi (As := [.int (nI i), .int (nI S)]) (rest := []) ⟨hx, hb, hml, hown, hts⟩ (c_X3_othersOf l (D := D) (cI := cI) (cB := cB) (cZ := cZ) (hm := hm) (hp := hp) (hh := hh) (ht := ht) (n := n) (fo := fo) (ss := ss) (tr := tr) (hom := hom) (T := T) (i := i) (S := S) (by first | assumption | exact Nat.zero_le _ | omega) (by first | assumption | exact Nat.zero_le _ | omega) (by first | assumption | exact Nat.zero_le _ | omega) (by first | assumption | exact Nat.zero_le _ | omega) (by first | assumption | exact Nat.zero_le _ | omega)) (cwV 2 hts gX3_wants_X3_othersOf rfl rfl rfl (by decide +kernel) ⟨Nat.le_of_ble_eq_true rfl, Nat.le_of_ble_eq_true rfl⟩) hK hP [0, 1, 2, 3] rfl 0 3 rfl rfl rfl rfl hl.1 rfl (Nat.le_of_ble_eq_true rfl) dX3_wants_3 ⟨Nat.zero_le _, Nat.zero_le _⟩ (fun r_3 hr_3 => ?_)
  have hr_3 : nI (q_oth T n i S) = r_3 := (show r_3 = nI (q_oth T n i S) from hr_3).symm
  subst hr_3
  refine lv_istore (lv' := [(4, .int (nI (q_oth T n i S))), (0, .ref hm), (1, .int (nI i)), (2, .int (nI S)), (3, .int se)]) hx hb dX3_wants_6 hl (by decide) rfl (fun ls hl => ?_)
  refine lv_aload_n hx hb dX3_wants_8 rfl (lv_at hl 1 rfl) ?_
  refine lv_iload_n hx hb dX3_wants_9 rfl (lv_at hl 2 rfl) ?_
  refine lv_iload hx hb dX3_wants_10 (lv_at hl 0 rfl) ?_
  refine lv_iload_n hx hb dX3_wants_12 rfl (lv_at hl 4 rfl) ?_
  refine q_vi (As := [.int (nI i), .int (nI (q_oth T n i S)), .int se]) (rest := []) ⟨hx, hb, hml, hown, hts⟩ (c_X3_valueWith l (D := D) (cI := cI) (cB := cB) (cZ := cZ) (hm := hm) (hp := hp) (hh := hh) (ht := ht) (n := n) (fo := fo) (ss := ss) (tr := tr) (hom := hom) (T := T) (i := i) (o := q_oth T n i S) (se := se) (by first | assumption | exact Nat.zero_le _ | omega) (by first | assumption | exact Nat.zero_le _ | omega) (by first | assumption | exact Nat.zero_le _ | omega) (by first | assumption | exact Nat.zero_le _ | omega) (q_oth_le _ _ _ _)) (cwV 3 hts gX3_wants_X3_valueWith rfl rfl rfl (by decide +kernel) ⟨Nat.le_of_ble_eq_true rfl, Nat.le_of_ble_eq_true rfl⟩) hK hP [0, 1, 2, 3] rfl 0 3 rfl rfl rfl rfl hl.1 rfl (Nat.le_of_ble_eq_true rfl) dX3_wants_13 ⟨Nat.zero_le _, Nat.zero_le _⟩ (fun r_13 hr_13 => ?_)
  have hr_13 : q_wby (T i 0) (nI (T i 1) + (se - nI 50)) (T i 2) (q_oth T n i S) = r_13 := (show r_13 = q_wby (T i 0) (nI (T i 1) + (se - nI 50)) (T i 2) (q_oth T n i S) from hr_13).symm
  subst hr_13
  refine lv_iload hx hb dX3_wants_16 (lv_at hl 0 rfl) ?_
  refine lv_icmp_le (x := q_wby (T i 0) (nI (T i 1) + (se - nI 50)) (T i 2) (q_oth T n i S)) (y := nI (q_oth T n i S)) (tgt := 25) hx hb dX3_wants_18 (by decide) (fun c_18 => ?_) (fun c_18 => ?_)
  · refine lv_iconst (v := nI 0) hx hb dX3_wants_25 (by decide) ?_
    exact q_zret (v := nI 0) hx hb hr hlocks (q_nar0) (show nI 0 = bI (q_want T n se i S) from by rw [show q_want T n se i S = false from q_dF c_18]; rfl) dX3_wants_26
  · refine lv_iconst (v := nI 1) hx hb dX3_wants_21 (by decide) ?_
    refine lv_goto (tgt := 26) hx hb dX3_wants_22 (by decide) ?_
    exact q_zret (v := nI 1) hx hb hr hlocks (q_nar1) (show nI 1 = bI (q_want T n se i S) from by rw [show q_want T n se i S = true from q_dT c_18]; rfl) dX3_wants_26

set_option maxHeartbeats 4000000 in
set_option maxRecDepth 100000 in
theorem c_X3_changes (l : Launch) {D : va_G} {cI cB cZ : ClassId} {hm : Nat} {hp : Nat} {hh : Nat} {ht : Nat} {n : Nat} {fo : Int32} {ss : Int32} {tr : Nat → Int32} {hom : Nat → Int32} {T : Nat → Nat → Nat} {i : Nat} {S : Nat} {se : Int32} (hT : q_Tr T n tr) (hB : q_Bd T n) (hH : q_Hm T n hom) (hi : i < n) (hS : S < 2 ^ n) : Met l yX3_changes wsX3_changes ({ frames := 2, cells := 0, slots := 0, locals := 47 } : Room) (va_Pc [.ref hm, .int (nI i), .int (nI S), .int se] (q_B D (q_tys cI cB cZ) [(hm, .inr (3, [.ref hp, .ref hh])), (hp, .inr (4, [.ref ht, .int (nI n), .int fo, .int ss])), (ht, .inl (cI, 35, .inl tr)), (hh, .inl (cI, 128, .inl hom))])) (vp_Si (fun r => r = bI (q_chg T n se i S))) 0 0 (fun _ => False) := by
  refine Met.ofW (cc := cX3_changes) (maxL := 6) (ret := (some .boolean)) (by decide) rfl ?_
  intro p e s m args below meth c s₁ B hml hv
  obtain ⟨rfl, hP, hK⟩ := hv
  have hx := B.exec
  have hb := B.bytes
  have hr := B.returns
  have hts := atoms_spec (ws := wsX3_changes) B.pre
  have hown : s.vm.findClass RX3 = some m.cls := findClass_of_methodNamed B.named
  have hlocks := B.notSynchronized
  have hP : va_P D vwCl [(hm, .inr (3, [.ref hp, .ref hh])), (hp, .inr (4, [.ref ht, .int (nI n), .int fo, .int ss])), (ht, .inl (cI, 35, .inl tr)), (hh, .inl (cI, 128, .inl hom))] s.heap := hP
  have hl := lv_entry ([.ref hm, .int (nI i), .int (nI S), .int se]) (n := 6) (Nat.le_of_ble_eq_true rfl)
  rw [lg_entry_eq]
  generalize (lg_sl ([.ref hm, .int (nI i), .int (nI S), .int se]) ++ List.replicate (6 - (lg_sl ([.ref hm, .int (nI i), .int (nI S), .int se])).length) Slot.unset).toArray = ls at hl ⊢
  have hl : lv_has ls 6 [(0, .ref hm), (1, .int (nI i)), (2, .int (nI S)), (3, .int se)] := hl
  refine lv_aload_n hx hb dX3_changes_0 rfl (lv_at hl 0 rfl) ?_
  refine lv_iload_n hx hb dX3_changes_1 rfl (lv_at hl 1 rfl) ?_
  refine lv_iload_n hx hb dX3_changes_2 rfl (lv_at hl 2 rfl) ?_
  refine q_vi (As := [.int (nI i), .int (nI S)]) (rest := []) ⟨hx, hb, hml, hown, hts⟩ (c_X3_othersOf l (D := D) (cI := cI) (cB := cB) (cZ := cZ) (hm := hm) (hp := hp) (hh := hh) (ht := ht) (n := n) (fo := fo) (ss := ss) (tr := tr) (hom := hom) (T := T) (i := i) (S := S) (by first | assumption | exact Nat.zero_le _ | omega) (by first | assumption | exact Nat.zero_le _ | omega) (by first | assumption | exact Nat.zero_le _ | omega) (by first | assumption | exact Nat.zero_le _ | omega) (by first | assumption | exact Nat.zero_le _ | omega)) (cwV 2 hts gX3_changes_X3_othersOf rfl rfl rfl (by decide +kernel) ⟨Nat.le_of_ble_eq_true rfl, Nat.le_of_ble_eq_true rfl⟩) hK hP [0, 1, 2, 3] rfl 0 3 rfl rfl rfl rfl hl.1 rfl (Nat.le_of_ble_eq_true rfl) dX3_changes_3 ⟨Nat.zero_le _, Nat.zero_le _⟩ (fun r_3 hr_3 => ?_)
  have hr_3 : nI (q_oth T n i S) = r_3 := (show r_3 = nI (q_oth T n i S) from hr_3).symm
  subst hr_3
  refine lv_istore (lv' := [(4, .int (nI (q_oth T n i S))), (0, .ref hm), (1, .int (nI i)), (2, .int (nI S)), (3, .int se)]) hx hb dX3_changes_6 hl (by decide) rfl (fun ls hl => ?_)
  refine lv_aload_n hx hb dX3_changes_8 rfl (lv_at hl 1 rfl) ?_
  refine lv_iload_n hx hb dX3_changes_9 rfl (lv_at hl 2 rfl) ?_
  refine lv_iload hx hb dX3_changes_10 (lv_at hl 0 rfl) ?_
  refine lv_iload_n hx hb dX3_changes_12 rfl (lv_at hl 4 rfl) ?_
  refine q_vi (As := [.int (nI i), .int (nI (q_oth T n i S)), .int se]) (rest := []) ⟨hx, hb, hml, hown, hts⟩ (c_X3_valueWith l (D := D) (cI := cI) (cB := cB) (cZ := cZ) (hm := hm) (hp := hp) (hh := hh) (ht := ht) (n := n) (fo := fo) (ss := ss) (tr := tr) (hom := hom) (T := T) (i := i) (o := q_oth T n i S) (se := se) (by first | assumption | exact Nat.zero_le _ | omega) (by first | assumption | exact Nat.zero_le _ | omega) (by first | assumption | exact Nat.zero_le _ | omega) (by first | assumption | exact Nat.zero_le _ | omega) (q_oth_le _ _ _ _)) (cwV 3 hts gX3_changes_X3_valueWith rfl rfl rfl (by decide +kernel) ⟨Nat.le_of_ble_eq_true rfl, Nat.le_of_ble_eq_true rfl⟩) hK hP [0, 1, 2, 3] rfl 0 3 rfl rfl rfl rfl hl.1 rfl (Nat.le_of_ble_eq_true rfl) dX3_changes_13 ⟨Nat.zero_le _, Nat.zero_le _⟩ (fun r_13 hr_13 => ?_)
  have hr_13 : q_wby (T i 0) (nI (T i 1) + (se - nI 50)) (T i 2) (q_oth T n i S) = r_13 := (show r_13 = q_wby (T i 0) (nI (T i 1) + (se - nI 50)) (T i 2) (q_oth T n i S) from hr_13).symm
  subst hr_13
  refine lv_istore (lv' := [(5, .int (q_wby (T i 0) (nI (T i 1) + (se - nI 50)) (T i 2) (q_oth T n i S))), (4, .int (nI (q_oth T n i S))), (0, .ref hm), (1, .int (nI i)), (2, .int (nI S)), (3, .int se)]) hx hb dX3_changes_16 hl (by decide) rfl (fun ls hl => ?_)
  refine lv_iload_n hx hb dX3_changes_18 rfl (lv_at hl 4 rfl) ?_
  refine lv_iload_n hx hb dX3_changes_19 rfl (lv_at hl 3 rfl) ?_
  refine q_ni (As := [.int (nI S), .int (nI i)]) (rest := []) ⟨hx, hb, hml, hown, hts⟩ (c_X9_has l (D := D) (cI := cI) (cB := cB) (cZ := cZ) (S := S) (i := i) (by have := hB.1; omega) (by have := q_S128 hB hS; omega)) ⟨va_cnB 2 hts gX3_changes_X9_has_n62 rfl rfl rfl (hK.2.at 12 rfl) (hts (.initialized RX9) (by decide +kernel)) (by decide +kernel) ⟨Nat.le_of_ble_eq_true rfl, Nat.le_of_ble_eq_true rfl⟩, hts (.static yX9_has) (by decide +kernel), trivial⟩ hK hP [] rfl rfl hl.1 rfl (Nat.le_of_ble_eq_true rfl) dX3_changes_20 ⟨Nat.zero_le _, Nat.zero_le _⟩ (fun r_20 hr_20 => ?_)
  have hr_20 : bI (S.testBit i) = r_20 := (show r_20 = bI (S.testBit i) from hr_20).symm
  subst hr_20
  refine q_beq (tgt := 39) hx hb dX3_changes_23 (by decide) (fun c_23 => ?_) (fun c_23 => ?_)
  · refine lv_iload hx hb dX3_changes_39 (lv_at hl 0 rfl) ?_
    refine lv_iload hx hb dX3_changes_41 (lv_at hl 1 rfl) ?_
    refine lv_icmp_le (x := q_wby (T i 0) (nI (T i 1) + (se - nI 50)) (T i 2) (q_oth T n i S)) (y := nI (q_oth T n i S)) (tgt := 50) hx hb dX3_changes_43 (by decide) (fun c_43 => ?_) (fun c_43 => ?_)
    · refine lv_iconst (v := nI 0) hx hb dX3_changes_50 (by decide) ?_
      exact q_zret (v := nI 0) hx hb hr hlocks (q_nar0) (show nI 0 = bI (q_chg T n se i S) from by rw [show q_chg T n se i S = false from by unfold q_chg; rw [if_neg (by rw [c_23]; decide)]; exact q_dF c_43]; rfl) dX3_changes_51
    · refine lv_iconst (v := nI 1) hx hb dX3_changes_46 (by decide) ?_
      refine lv_goto (tgt := 51) hx hb dX3_changes_47 (by decide) ?_
      exact q_zret (v := nI 1) hx hb hr hlocks (q_nar1) (show nI 1 = bI (q_chg T n se i S) from by rw [show q_chg T n se i S = true from by unfold q_chg; rw [if_neg (by rw [c_23]; decide)]; exact q_dT c_43]; rfl) dX3_changes_51
  · refine lv_iload hx hb dX3_changes_26 (lv_at hl 0 rfl) ?_
    refine lv_if_ge (x := q_wby (T i 0) (nI (T i 1) + (se - nI 50)) (T i 2) (q_oth T n i S)) (tgt := 35) hx hb dX3_changes_28 (by decide) (fun c_28 => ?_) (fun c_28 => ?_)
    · refine lv_iconst (v := nI 0) hx hb dX3_changes_35 (by decide) ?_
      refine lv_goto (tgt := 51) hx hb dX3_changes_36 (by decide) ?_
      exact q_zret (v := nI 0) hx hb hr hlocks (q_nar0) (show nI 0 = bI (q_chg T n se i S) from by rw [show q_chg T n se i S = false from by unfold q_chg; rw [if_pos c_23]; exact q_dF c_28]; rfl) dX3_changes_51
    · refine lv_iconst (v := nI 1) hx hb dX3_changes_31 (by decide) ?_
      refine lv_goto (tgt := 51) hx hb dX3_changes_32 (by decide) ?_
      exact q_zret (v := nI 1) hx hb hr hlocks (q_nar1) (show nI 1 = bI (q_chg T n se i S) from by rw [show q_chg T n se i S = true from by unfold q_chg; rw [if_pos c_23]; exact q_dT c_28]; rfl) dX3_changes_51

set_option maxHeartbeats 4000000 in
set_option maxRecDepth 100000 in
theorem c_X3_changersBy (l : Launch) {D : va_G} {cI cB cZ : ClassId} {hm : Nat} {hp : Nat} {hh : Nat} {ht : Nat} {n : Nat} {fo : Int32} {ss : Int32} {tr : Nat → Int32} {hom : Nat → Int32} {T : Nat → Nat → Nat} {S : Nat} {se : Int32} (hT : q_Tr T n tr) (hB : q_Bd T n) (hH : q_Hm T n hom) (hS : S < 2 ^ n) : Met l yX3_changersBy wsX3_changersBy ({ frames := 3, cells := 0, slots := 0, locals := 72 } : Room) (va_Pc [.ref hm, .int (nI S), .int se] (q_B D (q_tys cI cB cZ) [(hm, .inr (3, [.ref hp, .ref hh])), (hp, .inr (4, [.ref ht, .int (nI n), .int fo, .int ss])), (ht, .inl (cI, 35, .inl tr)), (hh, .inl (cI, 128, .inl hom))])) (vp_Si (fun r => r = nI (q_cs T n se S n))) 0 0 (fun _ => False) := by
  refine Met.ofW (cc := cX3_changersBy) (maxL := 5) (ret := (some .int)) (by decide) rfl ?_
  intro p e s m args below meth c s₁ B hml hv
  obtain ⟨rfl, hP, hK⟩ := hv
  have hx := B.exec
  have hb := B.bytes
  have hr := B.returns
  have hts := atoms_spec (ws := wsX3_changersBy) B.pre
  have hown : s.vm.findClass RX3 = some m.cls := findClass_of_methodNamed B.named
  have hlocks := B.notSynchronized
  have hin3 : ∀ w ∈ u_ws RX3 TX3 2, w ∈ wsX3_changersBy := by decide +kernel
  have hin4 : ∀ w ∈ u_ws RX4 TX4 4, w ∈ wsX3_changersBy := by decide +kernel
  have hP : va_P D vwCl [(hm, .inr (3, [.ref hp, .ref hh])), (hp, .inr (4, [.ref ht, .int (nI n), .int fo, .int ss])), (ht, .inl (cI, 35, .inl tr)), (hh, .inl (cI, 128, .inl hom))] s.heap := hP
  have hl := lv_entry ([.ref hm, .int (nI S), .int se]) (n := 5) (Nat.le_of_ble_eq_true rfl)
  rw [lg_entry_eq]
  generalize (lg_sl ([.ref hm, .int (nI S), .int se]) ++ List.replicate (5 - (lg_sl ([.ref hm, .int (nI S), .int se])).length) Slot.unset).toArray = ls at hl ⊢
  have hl : lv_has ls 5 [(0, .ref hm), (1, .int (nI S)), (2, .int se)] := hl
  have hn7 := hB.1
  have L5 : ∀ (fuel : Nat) (i : Nat) (hi : i ≤ n) (hf : n - i < fuel) (ls : Array Slot) (hl : lv_has ls 5 [(0, .ref hm), (1, .int (nI S)), (2, .int se), (3, .int (nI (q_cs T n se S i))), (4, .int (nI i))]), W p l e (headSpec wsX3_changersBy ({ frames := 3, cells := 0, slots := 0, locals := 72 } : Room)).room s m ([.ref hm, .int (nI S), .int se] : List Value).toArray below meth c s.heap [] 0 0 (MQ below (vp_Si (fun r => r = nI (q_cs T n se S n))) ([.ref hm, .int (nI S), .int se] : List Value).toArray s 0 0 (fun _ => False)) (F0 m 5 ls []) := by
    intro fuel
    induction fuel with
    | zero =>
      intro i hi hf ls hl
      exact absurd hf (Nat.not_lt_zero _)
    | succ fuel ih5 =>
      intro i hi hf ls hl
      refine lv_iload hx hb dX3_changersBy_5 (lv_at hl 4 rfl) ?_
      refine lv_aload_n hx hb dX3_changersBy_7 rfl (lv_at hl 0 rfl) ?_
      refine q_get (ci := 3) (CC := RX3) (T := TX3) (N := 2) (v := .ref hp) hx hb hts hin3 hown hK hP 0 rfl rfl 0 (by decide) (hts (.fieldLink RX3 12 "DearAsMany$Market" "people" "LDearAsMany$People;") (by decide +kernel)) rfl rfl dX3_changersBy_8 ?_
      refine q_get (ci := 4) (CC := RX4) (T := TX4) (N := 4) (v := .int (nI n)) hx hb hts hin4 hown hK hP 1 rfl rfl 1 (by decide) (hts (.fieldLink RX3 26 "DearAsMany$People" "size" "I") (by decide +kernel)) rfl rfl dX3_changersBy_11 ?_
      refine q_nge (tgt := 42) hx hb dX3_changersBy_14 (by decide) (by omega) (by omega) (fun c_14 => ?_) (fun c_14 => ?_)
      · refine lv_iload_n hx hb dX3_changersBy_42 rfl (lv_at hl 3 rfl) ?_
        exact q_zret (v := nI (q_cs T n se S i)) hx hb hr hlocks (rfl) (show nI (q_cs T n se S i) = nI (q_cs T n se S n) from by rw [show i = n from by omega]) dX3_changersBy_43
      · refine lv_aload_n hx hb dX3_changersBy_17 rfl (lv_at hl 0 rfl) ?_
        refine lv_iload hx hb dX3_changersBy_18 (lv_at hl 4 rfl) ?_
        refine lv_iload_n hx hb dX3_changersBy_20 rfl (lv_at hl 1 rfl) ?_
        refine lv_iload_n hx hb dX3_changersBy_21 rfl (lv_at hl 2 rfl) ?_
        refine q_vi (As := [.int (nI i), .int (nI S), .int se]) (rest := []) ⟨hx, hb, hml, hown, hts⟩ (c_X3_changes l (D := D) (cI := cI) (cB := cB) (cZ := cZ) (hm := hm) (hp := hp) (hh := hh) (ht := ht) (n := n) (fo := fo) (ss := ss) (tr := tr) (hom := hom) (T := T) (i := i) (S := S) (se := se) (by first | assumption | exact Nat.zero_le _ | omega) (by first | assumption | exact Nat.zero_le _ | omega) (by first | assumption | exact Nat.zero_le _ | omega) (by omega) (by first | assumption | exact Nat.zero_le _ | omega)) (cwV 3 hts gX3_changersBy_X3_changes rfl rfl rfl (by decide +kernel) ⟨Nat.le_of_ble_eq_true rfl, Nat.le_of_ble_eq_true rfl⟩) hK hP [0, 1, 2, 3] rfl 0 3 rfl rfl rfl rfl hl.1 rfl (Nat.le_of_ble_eq_true rfl) dX3_changersBy_22 ⟨Nat.zero_le _, Nat.zero_le _⟩ (fun r_22 hr_22 => ?_)
        have hr_22 : bI (q_chg T n se i S) = r_22 := (show r_22 = bI (q_chg T n se i S) from hr_22).symm
        subst hr_22
        refine q_beq (tgt := 36) hx hb dX3_changersBy_25 (by decide) (fun c_25 => ?_) (fun c_25 => ?_)
        · refine lv_iinc (v := nI (i + 1)) (lv' := [(4, .int (nI (i + 1))), (0, .ref hm), (1, .int (nI S)), (2, .int se), (3, .int (nI (q_cs T n se S i)))]) hx hb dX3_changersBy_36 hl (k := 4) rfl (nI_add _ 1) (by decide) rfl (fun ls hl => ?_)
          refine lv_goto (tgt := 5) hx hb dX3_changersBy_39 (by decide) ?_
          have hl : lv_has ls 5 [(4, .int (nI (i + 1))), (0, .ref hm), (1, .int (nI S)), (2, .int se), (3, .int (nI (q_cs T n se S (i + 1))))] := by rw [← show nI (q_cs T n se S i) = nI (q_cs T n se S (i + 1)) from by show nI _ = nI (if q_chg T n se i S then _ else _); rw [if_neg (by rw [c_25]; decide)]]; exact hl
          exact ih5 (i + 1) (by first | assumption | exact Nat.zero_le _ | omega) (by omega) ls (lv_sub hl [1, 2, 3, 4, 0] rfl)
        · refine lv_iload_n hx hb dX3_changersBy_28 rfl (lv_at hl 3 rfl) ?_
          refine lv_iload hx hb dX3_changersBy_29 (lv_at hl 4 rfl) ?_
          refine q_ni (As := [.int (nI i)]) (rest := [.int (nI (q_cs T n se S i))]) ⟨hx, hb, hml, hown, hts⟩ (c_X9_bit l (D := D) (cI := cI) (cB := cB) (cZ := cZ) (i := i) (by omega)) ⟨va_cnB 1 hts gX3_changersBy_X9_bit_n34 rfl rfl rfl (hK.2.at 8 rfl) (hts (.initialized RX9) (by decide +kernel)) (by decide +kernel) ⟨Nat.le_of_ble_eq_true rfl, Nat.le_of_ble_eq_true rfl⟩, hts (.static yX9_bit) (by decide +kernel), trivial⟩ hK hP [] rfl rfl hl.1 rfl (Nat.le_of_ble_eq_true rfl) dX3_changersBy_31 ⟨Nat.zero_le _, Nat.zero_le _⟩ (fun r_31 hr_31 => ?_)
          have hr_31 : nI (2 ^ i) = r_31 := (show r_31 = nI (2 ^ i) from hr_31).symm
          subst hr_31
          refine q_ior (v := nI ((q_cs T n se S i) ||| (2 ^ i))) hx hb dX3_changersBy_34 (q_or _ _) ?_
          refine lv_istore_n (lv' := [(3, .int (nI ((q_cs T n se S i) ||| (2 ^ i)))), (0, .ref hm), (1, .int (nI S)), (2, .int se), (4, .int (nI i))]) hx hb dX3_changersBy_35 rfl hl (by decide) rfl (fun ls hl => ?_)
          refine lv_iinc (v := nI (i + 1)) (lv' := [(4, .int (nI (i + 1))), (3, .int (nI ((q_cs T n se S i) ||| (2 ^ i)))), (0, .ref hm), (1, .int (nI S)), (2, .int se)]) hx hb dX3_changersBy_36 hl (k := 4) rfl (nI_add _ 1) (by decide) rfl (fun ls hl => ?_)
          refine lv_goto (tgt := 5) hx hb dX3_changersBy_39 (by decide) ?_
          have hl : lv_has ls 5 [(4, .int (nI (i + 1))), (3, .int (nI (q_cs T n se S (i + 1)))), (0, .ref hm), (1, .int (nI S)), (2, .int se)] := by rw [← show nI ((q_cs T n se S i) ||| (2 ^ i)) = nI (q_cs T n se S (i + 1)) from by show nI _ = nI (if q_chg T n se i S then _ else _); rw [if_pos c_25]]; exact hl
          exact ih5 (i + 1) (by first | assumption | exact Nat.zero_le _ | omega) (by omega) ls (lv_sub hl [2, 3, 4, 1, 0] rfl)
  refine lv_iconst (v := nI 0) hx hb dX3_changersBy_0 (by decide) ?_
  refine lv_istore_n (lv' := [(3, .int (nI 0)), (0, .ref hm), (1, .int (nI S)), (2, .int se)]) hx hb dX3_changersBy_1 rfl hl (by decide) rfl (fun ls hl => ?_)
  refine lv_iconst (v := nI 0) hx hb dX3_changersBy_2 (by decide) ?_
  refine lv_istore (lv' := [(4, .int (nI 0)), (3, .int (nI 0)), (0, .ref hm), (1, .int (nI S)), (2, .int se)]) hx hb dX3_changersBy_3 hl (by decide) rfl (fun ls hl => ?_)
  exact L5 _ 0 (by first | assumption | exact Nat.zero_le _ | omega) (Nat.lt_succ_self _) ls (lv_sub hl [2, 3, 4, 1, 0] rfl)

set_option maxHeartbeats 4000000 in
set_option maxRecDepth 100000 in
/-- a ROUND -/
theorem c_X3_nextOwners (l : Launch) {D : va_G} {cI cB cZ : ClassId} {hm : Nat} {hp : Nat} {hh : Nat} {ht : Nat} {n : Nat} {fo : Int32} {ss : Int32} {tr : Nat → Int32} {hom : Nat → Int32} {T : Nat → Nat → Nat} {S : Nat} {t : Bool} {se : Int32} (hT : q_Tr T n tr) (hB : q_Bd T n) (hH : q_Hm T n hom) (hS : S < 2 ^ n) : Met l yX3_nextOwners wsX3_nextOwners ({ frames := 3, cells := 0, slots := 0, locals := 72 } : Room) (va_Pc [.ref hm, .int (nI S), .int (bI t), .int se] (q_B D (q_tys cI cB cZ) [(hm, .inr (3, [.ref hp, .ref hh])), (hp, .inr (4, [.ref ht, .int (nI n), .int fo, .int ss])), (ht, .inl (cI, 35, .inl tr)), (hh, .inl (cI, 128, .inl hom))])) (vp_Si (fun r => r = nI (q_rd T n se t S))) 0 0 (fun _ => False) := by
  refine Met.ofW (cc := cX3_nextOwners) (maxL := 6) (ret := (some .int)) (by decide) rfl ?_
  intro p e s m args below meth c s₁ B hml hv
  obtain ⟨rfl, hP, hK⟩ := hv
  have hx := B.exec
  have hb := B.bytes
  have hr := B.returns
  have hts := atoms_spec (ws := wsX3_nextOwners) B.pre
  have hown : s.vm.findClass RX3 = some m.cls := findClass_of_methodNamed B.named
  have hlocks := B.notSynchronized
  have hin3 : ∀ w ∈ u_ws RX3 TX3 2, w ∈ wsX3_nextOwners := by decide +kernel
  have hin4 : ∀ w ∈ u_ws RX4 TX4 4, w ∈ wsX3_nextOwners := by decide +kernel
  have hP : va_P D vwCl [(hm, .inr (3, [.ref hp, .ref hh])), (hp, .inr (4, [.ref ht, .int (nI n), .int fo, .int ss])), (ht, .inl (cI, 35, .inl tr)), (hh, .inl (cI, 128, .inl hom))] s.heap := hP
  have hl := lv_entry ([.ref hm, .int (nI S), .int (bI t), .int se]) (n := 6) (Nat.le_of_ble_eq_true rfl)
  rw [lg_entry_eq]
  generalize (lg_sl ([.ref hm, .int (nI S), .int (bI t), .int se]) ++ List.replicate (6 - (lg_sl ([.ref hm, .int (nI S), .int (bI t), .int se])).length) Slot.unset).toArray = ls at hl ⊢
  have hl : lv_has ls 6 [(0, .ref hm), (1, .int (nI S)), (2, .int (bI t)), (3, .int se)] := hl
  have hn7 := hB.1
  have L6 : ∀ (fuel : Nat) (i : Nat) (hi : i ≤ n) (hf : n - i < fuel) (ls : Array Slot) (hl : lv_has ls 6 [(0, .ref hm), (1, .int (nI S)), (2, .int (bI t)), (3, .int se), (4, .int (nI (q_rn T n se t S i))), (5, .int (nI i))]), W p l e (headSpec wsX3_nextOwners ({ frames := 3, cells := 0, slots := 0, locals := 72 } : Room)).room s m ([.ref hm, .int (nI S), .int (bI t), .int se] : List Value).toArray below meth c s.heap [] 0 0 (MQ below (vp_Si (fun r => r = nI (q_rd T n se t S))) ([.ref hm, .int (nI S), .int (bI t), .int se] : List Value).toArray s 0 0 (fun _ => False)) (F0 m 6 ls []) := by
    intro fuel
    induction fuel with
    | zero =>
      intro i hi hf ls hl
      exact absurd hf (Nat.not_lt_zero _)
    | succ fuel ih6 =>
      intro i hi hf ls hl
      refine lv_iload hx hb dX3_nextOwners_6 (lv_at hl 5 rfl) ?_
      refine lv_aload_n hx hb dX3_nextOwners_8 rfl (lv_at hl 0 rfl) ?_
      refine q_get (ci := 3) (CC := RX3) (T := TX3) (N := 2) (v := .ref hp) hx hb hts hin3 hown hK hP 0 rfl rfl 0 (by decide) (hts (.fieldLink RX3 12 "DearAsMany$Market" "people" "LDearAsMany$People;") (by decide +kernel)) rfl rfl dX3_nextOwners_9 ?_
      refine q_get (ci := 4) (CC := RX4) (T := TX4) (N := 4) (v := .int (nI n)) hx hb hts hin4 hown hK hP 1 rfl rfl 1 (by decide) (hts (.fieldLink RX3 26 "DearAsMany$People" "size" "I") (by decide +kernel)) rfl rfl dX3_nextOwners_12 ?_
      refine q_nge (tgt := 54) hx hb dX3_nextOwners_15 (by decide) (by omega) (by omega) (fun c_15 => ?_) (fun c_15 => ?_)
      · refine lv_iload hx hb dX3_nextOwners_54 (lv_at hl 4 rfl) ?_
        exact q_zret (v := nI (q_rn T n se t S i)) hx hb hr hlocks (rfl) (show nI (q_rn T n se t S i) = nI (q_rd T n se t S) from by rw [show i = n from by omega]; rfl) dX3_nextOwners_56
      · refine lv_aload_n hx hb dX3_nextOwners_18 rfl (lv_at hl 0 rfl) ?_
        refine lv_iload hx hb dX3_nextOwners_19 (lv_at hl 5 rfl) ?_
        refine lv_iload_n hx hb dX3_nextOwners_21 rfl (lv_at hl 2 rfl) ?_
        refine q_beq (tgt := 30) hx hb dX3_nextOwners_22 (by decide) (fun c_22 => ?_) (fun c_22 => ?_)
        · refine lv_iload_n hx hb dX3_nextOwners_30 rfl (lv_at hl 1 rfl) ?_
          refine lv_iload_n hx hb dX3_nextOwners_31 rfl (lv_at hl 3 rfl) ?_
          refine q_vi (As := [.int (nI i), .int (nI S), .int se]) (rest := []) ⟨hx, hb, hml, hown, hts⟩ (c_X3_changes l (D := D) (cI := cI) (cB := cB) (cZ := cZ) (hm := hm) (hp := hp) (hh := hh) (ht := ht) (n := n) (fo := fo) (ss := ss) (tr := tr) (hom := hom) (T := T) (i := i) (S := S) (se := se) (by first | assumption | exact Nat.zero_le _ | omega) (by first | assumption | exact Nat.zero_le _ | omega) (by first | assumption | exact Nat.zero_le _ | omega) (by omega) (hS)) (cwV 3 hts gX3_nextOwners_X3_changes rfl rfl rfl (by decide +kernel) ⟨Nat.le_of_ble_eq_true rfl, Nat.le_of_ble_eq_true rfl⟩) hK hP [0, 1, 2, 3] rfl 0 3 rfl rfl rfl rfl hl.1 rfl (Nat.le_of_ble_eq_true rfl) dX3_nextOwners_32 ⟨Nat.zero_le _, Nat.zero_le _⟩ (fun r_32 hr_32 => ?_)
          have hr_32 : bI (q_chg T n se i S) = r_32 := (show r_32 = bI (q_chg T n se i S) from hr_32).symm
          subst hr_32
          refine q_beq (tgt := 48) hx hb dX3_nextOwners_35 (by decide) (fun c_35 => ?_) (fun c_35 => ?_)
          · refine lv_iinc (v := nI (i + 1)) (lv' := [(5, .int (nI (i + 1))), (0, .ref hm), (1, .int (nI S)), (2, .int (bI t)), (3, .int se), (4, .int (nI (q_rn T n se t S i)))]) hx hb dX3_nextOwners_48 hl (k := 5) rfl (nI_add _ 1) (by decide) rfl (fun ls hl => ?_)
            refine lv_goto (tgt := 6) hx hb dX3_nextOwners_51 (by decide) ?_
            have hl : lv_has ls 6 [(5, .int (nI (i + 1))), (0, .ref hm), (1, .int (nI S)), (2, .int (bI t)), (3, .int se), (4, .int (nI (q_rn T n se t S (i + 1))))] := by rw [← show nI (q_rn T n se t S i) = nI (q_rn T n se t S (i + 1)) from by show nI _ = nI (if q_chg T n se i (if t then q_rn T n se t S i else S) then _ else _); rw [if_neg (c := t = true) (by rw [c_22]; decide), if_neg (by rw [c_35]; decide)]]; exact hl
            exact ih6 (i + 1) (by first | assumption | exact Nat.zero_le _ | omega) (by omega) ls (lv_sub hl [1, 2, 3, 4, 5, 0] rfl)
          · refine lv_iload hx hb dX3_nextOwners_38 (lv_at hl 4 rfl) ?_
            refine lv_iload hx hb dX3_nextOwners_40 (lv_at hl 5 rfl) ?_
            refine q_ni (As := [.int (nI i)]) (rest := [.int (nI (q_rn T n se t S i))]) ⟨hx, hb, hml, hown, hts⟩ (c_X9_bit l (D := D) (cI := cI) (cB := cB) (cZ := cZ) (i := i) (by omega)) ⟨va_cnB 1 hts gX3_nextOwners_X9_bit_n34 rfl rfl rfl (hK.2.at 8 rfl) (hts (.initialized RX9) (by decide +kernel)) (by decide +kernel) ⟨Nat.le_of_ble_eq_true rfl, Nat.le_of_ble_eq_true rfl⟩, hts (.static yX9_bit) (by decide +kernel), trivial⟩ hK hP [] rfl rfl hl.1 rfl (Nat.le_of_ble_eq_true rfl) dX3_nextOwners_42 ⟨Nat.zero_le _, Nat.zero_le _⟩ (fun r_42 hr_42 => ?_)
            have hr_42 : nI (2 ^ i) = r_42 := (show r_42 = nI (2 ^ i) from hr_42).symm
            subst hr_42
            refine q_ixor (v := nI ((q_rn T n se t S i) ^^^ (2 ^ i))) hx hb dX3_nextOwners_45 (q_xor _ _) ?_
            refine lv_istore (lv' := [(4, .int (nI ((q_rn T n se t S i) ^^^ (2 ^ i)))), (0, .ref hm), (1, .int (nI S)), (2, .int (bI t)), (3, .int se), (5, .int (nI i))]) hx hb dX3_nextOwners_46 hl (by decide) rfl (fun ls hl => ?_)
            refine lv_iinc (v := nI (i + 1)) (lv' := [(5, .int (nI (i + 1))), (4, .int (nI ((q_rn T n se t S i) ^^^ (2 ^ i)))), (0, .ref hm), (1, .int (nI S)), (2, .int (bI t)), (3, .int se)]) hx hb dX3_nextOwners_48 hl (k := 5) rfl (nI_add _ 1) (by decide) rfl (fun ls hl => ?_)
            refine lv_goto (tgt := 6) hx hb dX3_nextOwners_51 (by decide) ?_
            have hl : lv_has ls 6 [(5, .int (nI (i + 1))), (4, .int (nI (q_rn T n se t S (i + 1)))), (0, .ref hm), (1, .int (nI S)), (2, .int (bI t)), (3, .int se)] := by rw [← show nI ((q_rn T n se t S i) ^^^ (2 ^ i)) = nI (q_rn T n se t S (i + 1)) from by show nI _ = nI (if q_chg T n se i (if t then q_rn T n se t S i else S) then _ else _); rw [if_neg (c := t = true) (by rw [c_22]; decide), if_pos c_35]]; exact hl
            exact ih6 (i + 1) (by first | assumption | exact Nat.zero_le _ | omega) (by omega) ls (lv_sub hl [2, 3, 4, 5, 1, 0] rfl)
        · refine lv_iload hx hb dX3_nextOwners_25 (lv_at hl 4 rfl) ?_
          refine lv_goto (tgt := 31) hx hb dX3_nextOwners_27 (by decide) ?_
          refine lv_iload_n hx hb dX3_nextOwners_31 rfl (lv_at hl 3 rfl) ?_
          refine q_vi (As := [.int (nI i), .int (nI (q_rn T n se t S i)), .int se]) (rest := []) ⟨hx, hb, hml, hown, hts⟩ (c_X3_changes l (D := D) (cI := cI) (cB := cB) (cZ := cZ) (hm := hm) (hp := hp) (hh := hh) (ht := ht) (n := n) (fo := fo) (ss := ss) (tr := tr) (hom := hom) (T := T) (i := i) (S := q_rn T n se t S i) (se := se) (by first | assumption | exact Nat.zero_le _ | omega) (by first | assumption | exact Nat.zero_le _ | omega) (by first | assumption | exact Nat.zero_le _ | omega) (by omega) (q_rn_lt hS hi)) (cwV 3 hts gX3_nextOwners_X3_changes rfl rfl rfl (by decide +kernel) ⟨Nat.le_of_ble_eq_true rfl, Nat.le_of_ble_eq_true rfl⟩) hK hP [0, 1, 2, 3] rfl 0 3 rfl rfl rfl rfl hl.1 rfl (Nat.le_of_ble_eq_true rfl) dX3_nextOwners_32 ⟨Nat.zero_le _, Nat.zero_le _⟩ (fun r_32 hr_32 => ?_)
          have hr_32 : bI (q_chg T n se i (q_rn T n se t S i)) = r_32 := (show r_32 = bI (q_chg T n se i (q_rn T n se t S i)) from hr_32).symm
          subst hr_32
          refine q_beq (tgt := 48) hx hb dX3_nextOwners_35 (by decide) (fun c_35 => ?_) (fun c_35 => ?_)
          · refine lv_iinc (v := nI (i + 1)) (lv' := [(5, .int (nI (i + 1))), (0, .ref hm), (1, .int (nI S)), (2, .int (bI t)), (3, .int se), (4, .int (nI (q_rn T n se t S i)))]) hx hb dX3_nextOwners_48 hl (k := 5) rfl (nI_add _ 1) (by decide) rfl (fun ls hl => ?_)
            refine lv_goto (tgt := 6) hx hb dX3_nextOwners_51 (by decide) ?_
            have hl : lv_has ls 6 [(5, .int (nI (i + 1))), (0, .ref hm), (1, .int (nI S)), (2, .int (bI t)), (3, .int se), (4, .int (nI (q_rn T n se t S (i + 1))))] := by rw [← show nI (q_rn T n se t S i) = nI (q_rn T n se t S (i + 1)) from by show nI _ = nI (if q_chg T n se i (if t then q_rn T n se t S i else S) then _ else _); rw [if_pos (c := t = true) c_22, if_neg (by rw [c_35]; decide)]]; exact hl
            exact ih6 (i + 1) (by first | assumption | exact Nat.zero_le _ | omega) (by omega) ls (lv_sub hl [1, 2, 3, 4, 5, 0] rfl)
          · refine lv_iload hx hb dX3_nextOwners_38 (lv_at hl 4 rfl) ?_
            refine lv_iload hx hb dX3_nextOwners_40 (lv_at hl 5 rfl) ?_
            refine q_ni (As := [.int (nI i)]) (rest := [.int (nI (q_rn T n se t S i))]) ⟨hx, hb, hml, hown, hts⟩ (c_X9_bit l (D := D) (cI := cI) (cB := cB) (cZ := cZ) (i := i) (by omega)) ⟨va_cnB 1 hts gX3_nextOwners_X9_bit_n34 rfl rfl rfl (hK.2.at 8 rfl) (hts (.initialized RX9) (by decide +kernel)) (by decide +kernel) ⟨Nat.le_of_ble_eq_true rfl, Nat.le_of_ble_eq_true rfl⟩, hts (.static yX9_bit) (by decide +kernel), trivial⟩ hK hP [] rfl rfl hl.1 rfl (Nat.le_of_ble_eq_true rfl) dX3_nextOwners_42 ⟨Nat.zero_le _, Nat.zero_le _⟩ (fun r_42 hr_42 => ?_)
            have hr_42 : nI (2 ^ i) = r_42 := (show r_42 = nI (2 ^ i) from hr_42).symm
            subst hr_42
            refine q_ixor (v := nI ((q_rn T n se t S i) ^^^ (2 ^ i))) hx hb dX3_nextOwners_45 (q_xor _ _) ?_
            refine lv_istore (lv' := [(4, .int (nI ((q_rn T n se t S i) ^^^ (2 ^ i)))), (0, .ref hm), (1, .int (nI S)), (2, .int (bI t)), (3, .int se), (5, .int (nI i))]) hx hb dX3_nextOwners_46 hl (by decide) rfl (fun ls hl => ?_)
            refine lv_iinc (v := nI (i + 1)) (lv' := [(5, .int (nI (i + 1))), (4, .int (nI ((q_rn T n se t S i) ^^^ (2 ^ i)))), (0, .ref hm), (1, .int (nI S)), (2, .int (bI t)), (3, .int se)]) hx hb dX3_nextOwners_48 hl (k := 5) rfl (nI_add _ 1) (by decide) rfl (fun ls hl => ?_)
            refine lv_goto (tgt := 6) hx hb dX3_nextOwners_51 (by decide) ?_
            have hl : lv_has ls 6 [(5, .int (nI (i + 1))), (4, .int (nI (q_rn T n se t S (i + 1)))), (0, .ref hm), (1, .int (nI S)), (2, .int (bI t)), (3, .int se)] := by rw [← show nI ((q_rn T n se t S i) ^^^ (2 ^ i)) = nI (q_rn T n se t S (i + 1)) from by show nI _ = nI (if q_chg T n se i (if t then q_rn T n se t S i else S) then _ else _); rw [if_pos (c := t = true) c_22, if_pos c_35]]; exact hl
            exact ih6 (i + 1) (by first | assumption | exact Nat.zero_le _ | omega) (by omega) ls (lv_sub hl [2, 3, 4, 5, 1, 0] rfl)
  refine lv_iload_n hx hb dX3_nextOwners_0 rfl (lv_at hl 1 rfl) ?_
  refine lv_istore (lv' := [(4, .int (nI S)), (0, .ref hm), (1, .int (nI S)), (2, .int (bI t)), (3, .int se)]) hx hb dX3_nextOwners_1 hl (by decide) rfl (fun ls hl => ?_)
  refine lv_iconst (v := nI 0) hx hb dX3_nextOwners_3 (by decide) ?_
  refine lv_istore (lv' := [(5, .int (nI 0)), (4, .int (nI S)), (0, .ref hm), (1, .int (nI S)), (2, .int (bI t)), (3, .int se)]) hx hb dX3_nextOwners_4 hl (by decide) rfl (fun ls hl => ?_)
  exact L6 _ 0 (by first | assumption | exact Nat.zero_le _ | omega) (Nat.lt_succ_self _) ls (lv_sub hl [2, 3, 4, 5, 1, 0] rfl)
