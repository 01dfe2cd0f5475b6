set_option maxHeartbeats 4000000 in
set_option maxRecDepth 100000 in
theorem c_X10_person (l : Launch) {D : va_G} {cI cB cZ : ClassId} {ma : Nat} {mt : Nat} {mk : Nat} {mw : Nat} {mc : Nat} {mh : Nat} {mp : Nat} {mb : Nat} {me : Nat} {wp0 : Nat} {wo0 : Nat} {wb0 : Nat} {mr : Nat} {ml : Nat} {tn : Nat} {n : Nat} {ow : Nat} {uc : Nat} {kc : Nat} {sc : Nat} {ss : Int32} {at0 : Int32} {rm0 : Int32} {ro0 : Int32} {rs0 : Int32} {mK : Nat → Int32} {mW : Nat → Int32} {mC : Nat → Int32} {mH : Nat → Int32} {T : Nat → Nat → Nat} {mP : Nat → Int32} {P : Nat → Nat} {w : Int32} {v : Int32} (hMT : q_MT T n mK mW mC mH) (hB : q_Bd T n) (hn1 : 1 ≤ n) (how : ow < 2 ^ n) (hPn : ∀ i, i < n → mP i = nI (P i)) (hPb : ∀ i, i < n → P i < 2147483648) : Met l yX10_person wsX10_person ({ frames := 2, cells := 0, slots := 0, locals := 46 } : Room) (va_Pc [.ref ma, .int w, .int v] (q_B D (q_tys cI cB cZ) [(ma, .inr (10, [.ref mt, .int (nI tn), .int (nI n), .ref mk, .ref mw, .ref mc, .ref mh, .ref mp, .int (nI ow), .int ss, .int (nI uc), .ref mb, .int (nI kc), .ref me, .int (nI sc), .ref wp0, .ref wo0, .ref wb0, .int at0, .int rm0, .int ro0, .int rs0, .ref mr, .ref ml])), (mk, .inl (cI, 7, .inl mK)), (mw, .inl (cI, 7, .inl mW)), (mc, .inl (cI, 7, .inl mC)), (mh, .inl (cI, 7, .inl mH)), (mp, .inl (cI, 7, .inl mP))])) (vp_Si (fun r => r = A_person T n ow P w v)) 0 0 (fun _ => False) := by
  refine Met.ofW (cc := cX10_person) (maxL := 3) (ret := (some .int)) (by decide) rfl ?_
  intro p e s m args below meth c s₁ B hml hv
  obtain ⟨rfl, hP, hK⟩ := hv
  have hx := B.exec
  have hb := B.bytes
  have hr := B.returns
  have hts := atoms_spec (ws := wsX10_person) B.pre
  have hown : s.vm.findClass RX10 = some m.cls := findClass_of_methodNamed B.named
  have hlocks := B.notSynchronized
  have hin10 : ∀ w ∈ u_ws RX10 TX10 24, w ∈ wsX10_person := by decide +kernel
  have hP : va_P D vwCl [(ma, .inr (10, [.ref mt, .int (nI tn), .int (nI n), .ref mk, .ref mw, .ref mc, .ref mh, .ref mp, .int (nI ow), .int ss, .int (nI uc), .ref mb, .int (nI kc), .ref me, .int (nI sc), .ref wp0, .ref wo0, .ref wb0, .int at0, .int rm0, .int ro0, .int rs0, .ref mr, .ref ml])), (mk, .inl (cI, 7, .inl mK)), (mw, .inl (cI, 7, .inl mW)), (mc, .inl (cI, 7, .inl mC)), (mh, .inl (cI, 7, .inl mH)), (mp, .inl (cI, 7, .inl mP))] s.heap := hP
  have hl := lv_entry ([.ref ma, .int w, .int v]) (n := 3) (Nat.le_of_ble_eq_true rfl)
  rw [lg_entry_eq]
  generalize (lg_sl ([.ref ma, .int w, .int v]) ++ List.replicate (3 - (lg_sl ([.ref ma, .int w, .int v])).length) Slot.unset).toArray = ls at hl ⊢
  have hl : lv_has ls 3 [(0, .ref ma), (1, .int w), (2, .int v)] := hl
  have hn7 := hB.1
  have hp2 : 2 ^ n ≤ 128 := q_p2 hB.1
  have ho128 := q_S128 hB how
  rcases hw : q_ix (n) w with _ | i
  · refine lv_aload_n hx hb dX10_person_0 rfl (lv_at hl 0 rfl) ?_
    refine lv_iload_n hx hb dX10_person_1 rfl (lv_at hl 1 rfl) ?_
    refine q_vi (As := [.int w]) (rest := []) ⟨hx, hb, hml, hown, hts⟩ (c_X10_isPerson l (D := D) (cI := cI) (cB := cB) (cZ := cZ) (ma := ma) (mt := mt) (mk := mk) (mw := mw) (mc := mc) (mh := mh) (mp := mp) (mb := mb) (me := me) (wp0 := wp0) (wo0 := wo0) (wb0 := wb0) (mr := mr) (ml := ml) (tn := tn) (n := n) (ow := ow) (uc := uc) (kc := kc) (sc := sc) (ss := ss) (at0 := at0) (rm0 := rm0) (ro0 := ro0) (rs0 := rs0) (w := w) (by first | assumption | exact Nat.zero_le _ | omega) (by omega)) (cwV 1 hts gX10_person_X10_isPerson rfl rfl rfl (by decide +kernel) ⟨Nat.le_of_ble_eq_true rfl, Nat.le_of_ble_eq_true rfl⟩) hK hP [0] rfl 0 10 rfl rfl rfl rfl hl.1 rfl (Nat.le_of_ble_eq_true rfl) dX10_person_2 ⟨Nat.zero_le _, Nat.zero_le _⟩ (fun r_2 hr_2 => ?_)
    have hr_2 : bI false = r_2 := (Eq.trans (show r_2 = bI ((q_ix n w).isSome) from hr_2) (by rw [hw]; rfl)).symm
    subst hr_2
    refine q_beq (tgt := 20) hx hb dX10_person_5 (by decide) (fun c_5 => ?_) (fun c_5 => ?_)
    · refine lv_iconst (v := (-1 : Int32)) hx hb dX10_person_20 (by decide) ?_
      exact q_zret (v := (-1 : Int32)) hx hb hr hlocks (rfl) (show (-1 : Int32) = A_person T n ow P w v from by simp only [A_person, hw]) dX10_person_21
    · exact absurd c_5 (by decide)
  · have hwe := q_ixS hw
    have hl : lv_has ls 3 [(0, .ref ma), (1, .int (nI i)), (2, .int v)] := by rw [← show w = nI i from hwe.1]; exact hl
    refine lv_aload_n hx hb dX10_person_0 rfl (lv_at hl 0 rfl) ?_
    refine lv_iload_n hx hb dX10_person_1 rfl (lv_at hl 1 rfl) ?_
    refine q_vi (As := [.int (nI i)]) (rest := []) ⟨hx, hb, hml, hown, hts⟩ (c_X10_isPerson l (D := D) (cI := cI) (cB := cB) (cZ := cZ) (ma := ma) (mt := mt) (mk := mk) (mw := mw) (mc := mc) (mh := mh) (mp := mp) (mb := mb) (me := me) (wp0 := wp0) (wo0 := wo0) (wb0 := wb0) (mr := mr) (ml := ml) (tn := tn) (n := n) (ow := ow) (uc := uc) (kc := kc) (sc := sc) (ss := ss) (at0 := at0) (rm0 := rm0) (ro0 := ro0) (rs0 := rs0) (w := nI i) (by first | assumption | exact Nat.zero_le _ | omega) (by omega)) (cwV 1 hts gX10_person_X10_isPerson rfl rfl rfl (by decide +kernel) ⟨Nat.le_of_ble_eq_true rfl, Nat.le_of_ble_eq_true rfl⟩) hK hP [0] rfl 0 10 rfl rfl rfl rfl hl.1 rfl (Nat.le_of_ble_eq_true rfl) dX10_person_2 ⟨Nat.zero_le _, Nat.zero_le _⟩ (fun r_2 hr_2 => ?_)
    have hr_2 : bI true = r_2 := (Eq.trans (show r_2 = bI ((q_ix n (nI i)).isSome) from hr_2) (by rw [q_ixI hwe.2 (by omega)]; rfl)).symm
    subst hr_2
    refine q_beq (tgt := 20) hx hb dX10_person_5 (by decide) (fun c_5 => ?_) (fun c_5 => ?_)
    · exact absurd c_5 (by decide)
    · rcases hv : q_ix (6) v with _ | k
      · refine lv_iload_n hx hb dX10_person_8 rfl (lv_at hl 2 rfl) ?_
        refine lv_i2l (v := v.toInt64) hx hb dX10_person_9 (rfl) ?_
        refine lv_lconst (v := (0 : Int64)) hx hb dX10_person_10 (by decide) ?_
        refine lv_ldc2 (v := (5 : Int64)) hx hb hown (hts (.constantLong RX10 122 (5)) (by decide +kernel)) dX10_person_11 ?_
        refine q_si (As := [.long v.toInt64, .long (0 : Int64), .long (5 : Int64)]) (rest := []) ⟨hx, hb, hml, hown, hts⟩ (c_X10_in l (D := D) (cI := cI) (cB := cB) (cZ := cZ) (a1 := v.toInt64) (b1 := (0 : Int64)) (c1 := (5 : Int64)) ) (va_cwS 3 hts gX10_person_X10_in rfl rfl rfl (by decide +kernel) ⟨Nat.le_of_ble_eq_true rfl, Nat.le_of_ble_eq_true rfl⟩) hK hP [] rfl rfl hl.1 rfl (Nat.le_of_ble_eq_true rfl) dX10_person_14 ⟨Nat.zero_le _, Nat.zero_le _⟩ (fun r_14 hr_14 => ?_)
        have hr_14 : bI false = r_14 := (Eq.trans (show r_14 = bI (q_inb v.toInt64 (0 : Int64) (5 : Int64)) from hr_14) (q_in0 (lo := 0) (hi := 5) (N := 6) rfl (rfl) (by omega) hv (by omega))).symm
        subst hr_14
        refine q_bne (tgt := 22) hx hb dX10_person_17 (by decide) (fun c_17 => ?_) (fun c_17 => ?_)
        · exact absurd c_17 (by decide)
        · refine lv_iconst (v := (-1 : Int32)) hx hb dX10_person_20 (by decide) ?_
          exact q_zret (v := (-1 : Int32)) hx hb hr hlocks (rfl) (show (-1 : Int32) = A_person T n ow P w v from by simp only [A_person, hw]; rw [if_neg (q_ixne (by decide) (by decide) hv), if_neg (q_ixne (by decide) (by decide) hv), q_ixmono (by decide) (by decide) hv]) dX10_person_21
      · have hve := q_ixS hv
        have hl : lv_has ls 3 [(0, .ref ma), (1, .int (nI i)), (2, .int (nI k))] := by rw [← show v = nI k from hve.1]; exact hl
        refine lv_iload_n hx hb dX10_person_8 rfl (lv_at hl 2 rfl) ?_
        refine lv_i2l (v := (nI k).toInt64) hx hb dX10_person_9 (rfl) ?_
        refine lv_lconst (v := (0 : Int64)) hx hb dX10_person_10 (by decide) ?_
        refine lv_ldc2 (v := (5 : Int64)) hx hb hown (hts (.constantLong RX10 122 (5)) (by decide +kernel)) dX10_person_11 ?_
        refine q_si (As := [.long ((nI k).toInt64), .long (0 : Int64), .long (5 : Int64)]) (rest := []) ⟨hx, hb, hml, hown, hts⟩ (c_X10_in l (D := D) (cI := cI) (cB := cB) (cZ := cZ) (a1 := (nI k).toInt64) (b1 := (0 : Int64)) (c1 := (5 : Int64)) ) (va_cwS 3 hts gX10_person_X10_in rfl rfl rfl (by decide +kernel) ⟨Nat.le_of_ble_eq_true rfl, Nat.le_of_ble_eq_true rfl⟩) hK hP [] rfl rfl hl.1 rfl (Nat.le_of_ble_eq_true rfl) dX10_person_14 ⟨Nat.zero_le _, Nat.zero_le _⟩ (fun r_14 hr_14 => ?_)
        have hr_14 : bI true = r_14 := (Eq.trans (show r_14 = bI (q_inb ((nI k).toInt64) (0 : Int64) (5 : Int64)) from hr_14) (q_in1 (lo := 0) (hi := 5) rfl (rfl) (by omega) (by omega) (by omega))).symm
        subst hr_14
        refine q_bne (tgt := 22) hx hb dX10_person_17 (by decide) (fun c_17 => ?_) (fun c_17 => ?_)
        · refine lv_iload_n hx hb dX10_person_22 rfl (lv_at hl 2 rfl) ?_
          refine q_zne (tgt := 35) hx hb dX10_person_23 (by decide) (by omega) (fun c_23 => ?_) (fun c_23 => ?_)
          · refine lv_iload_n hx hb dX10_person_35 rfl (lv_at hl 2 rfl) ?_
            refine lv_iconst (v := nI 1) hx hb dX10_person_36 (by decide) ?_
            refine q_nne (tgt := 49) hx hb dX10_person_37 (by decide) (by omega) (by omega) (fun c_37 => ?_) (fun c_37 => ?_)
            · refine lv_iload_n hx hb dX10_person_49 rfl (lv_at hl 2 rfl) ?_
              refine lv_iconst (v := nI 2) hx hb dX10_person_50 (by decide) ?_
              refine q_nne (tgt := 63) hx hb dX10_person_51 (by decide) (by omega) (by omega) (fun c_51 => ?_) (fun c_51 => ?_)
              · refine lv_iload_n hx hb dX10_person_63 rfl (lv_at hl 2 rfl) ?_
                refine lv_iconst (v := nI 3) hx hb dX10_person_64 (by decide) ?_
                refine q_nne (tgt := 77) hx hb dX10_person_65 (by decide) (by omega) (by omega) (fun c_65 => ?_) (fun c_65 => ?_)
                · refine lv_iload_n hx hb dX10_person_77 rfl (lv_at hl 2 rfl) ?_
                  refine lv_iconst (v := nI 4) hx hb dX10_person_78 (by decide) ?_
                  refine q_nne (tgt := 95) hx hb dX10_person_79 (by decide) (by omega) (by omega) (fun c_79 => ?_) (fun c_79 => ?_)
                  · refine lv_aload_n hx hb dX10_person_95 rfl (lv_at hl 0 rfl) ?_
                    refine q_get (ci := 10) (CC := RX10) (T := TX10) (N := 24) (v := .int (nI ow)) hx hb hts hin10 hown hK hP 0 rfl rfl 8 (by decide) (hts (.fieldLink RX10 107 "DearAsManyModel" "owners" "I") (by decide +kernel)) rfl rfl dX10_person_96 ?_
                    refine lv_iload_n hx hb dX10_person_99 rfl (lv_at hl 1 rfl) ?_
                    refine q_si (As := [.int (nI ow), .int (nI i)]) (rest := []) ⟨hx, hb, hml, hown, hts⟩ (c_X10_has l (D := D) (cI := cI) (cB := cB) (cZ := cZ) (S := ow) (i := i) (by omega) (by omega)) (va_cwS 2 hts gX10_person_X10_has rfl rfl rfl (by decide +kernel) ⟨Nat.le_of_ble_eq_true rfl, Nat.le_of_ble_eq_true rfl⟩) hK hP [] rfl rfl hl.1 rfl (Nat.le_of_ble_eq_true rfl) dX10_person_100 ⟨Nat.zero_le _, Nat.zero_le _⟩ (fun r_100 hr_100 => ?_)
                    have hr_100 : bI (ow.testBit i) = r_100 := (show r_100 = bI (ow.testBit i) from hr_100).symm
                    subst hr_100
                    refine q_beq (tgt := 110) hx hb dX10_person_103 (by decide) (fun c_103 => ?_) (fun c_103 => ?_)
                    · refine lv_iconst (v := nI 0) hx hb dX10_person_110 (by decide) ?_
                      exact q_zret (v := nI 0) hx hb hr hlocks (rfl) (show nI 0 = A_person T n ow P w v from by simp only [A_person, hw]; rw [if_neg (by rw [hve.1]; exact fun z => absurd ((nI_eq (by omega) (by decide)).mp z) (by omega)), if_pos (by rw [hve.1, show k = 5 from by omega]), c_103]; rfl) dX10_person_111
                    · refine lv_iconst (v := nI 1) hx hb dX10_person_106 (by decide) ?_
                      refine lv_goto (tgt := 111) hx hb dX10_person_107 (by decide) ?_
                      exact q_zret (v := nI 1) hx hb hr hlocks (rfl) (show nI 1 = A_person T n ow P w v from by simp only [A_person, hw]; rw [if_neg (by rw [hve.1]; exact fun z => absurd ((nI_eq (by omega) (by decide)).mp z) (by omega)), if_pos (by rw [hve.1, show k = 5 from by omega]), c_103]; rfl) dX10_person_111
                  · refine lv_aload_n hx hb dX10_person_82 rfl (lv_at hl 0 rfl) ?_
                    refine q_get (ci := 10) (CC := RX10) (T := TX10) (N := 24) (v := .ref mp) hx hb hts hin10 hown hK hP 0 rfl rfl 7 (by decide) (hts (.fieldLink RX10 29 "DearAsManyModel" "pennies" "[I") (by decide +kernel)) rfl rfl dX10_person_83 ?_
                    refine lv_iload_n hx hb dX10_person_86 rfl (lv_at hl 1 rfl) ?_
                    refine q_aldv (v := nI (P i)) hx hb hK hP 5 0 rfl rfl (by omega) (by decide) dX10_person_87 (hPn i hwe.2) ?_
                    refine lv_sipush (v := nI 1000) hx hb dX10_person_88 (by decide) ?_
                    refine q_iadd (v := nI ((P i) + 1000)) hx hb dX10_person_91 (nI_add _ _) ?_
                    refine lv_goto (tgt := 111) hx hb dX10_person_92 (by decide) ?_
                    exact q_zret (v := nI ((P i) + 1000)) hx hb hr hlocks (rfl) (show nI ((P i) + 1000) = A_person T n ow P w v from by simp only [A_person, hw]; rw [if_pos (by rw [hve.1, c_79])]) dX10_person_111
                · refine lv_aload_n hx hb dX10_person_68 rfl (lv_at hl 0 rfl) ?_
                  refine q_get (ci := 10) (CC := RX10) (T := TX10) (N := 24) (v := .ref mh) hx hb hts hin10 hown hK hP 0 rfl rfl 6 (by decide) (hts (.fieldLink RX10 26 "DearAsManyModel" "house" "[I") (by decide +kernel)) rfl rfl dX10_person_69 ?_
                  refine lv_iload_n hx hb dX10_person_72 rfl (lv_at hl 1 rfl) ?_
                  refine q_aldv (v := nI (T i 3)) hx hb hK hP 4 0 rfl rfl (by omega) (by decide) dX10_person_73 ((hMT i hwe.2).2.2.2) ?_
                  refine lv_goto (tgt := 111) hx hb dX10_person_74 (by decide) ?_
                  exact q_zret (v := nI (T i 3)) hx hb hr hlocks (rfl) (show nI (T i 3) = A_person T n ow P w v from by simp only [A_person, hw]; rw [if_neg (by rw [hve.1]; exact fun z => absurd ((nI_eq (by omega) (by decide)).mp z) (by omega)), if_neg (by rw [hve.1]; exact fun z => absurd ((nI_eq (by omega) (by decide)).mp z) (by omega)), hve.1, q_ixI (by omega) (by omega)]; rw [show k = 3 from by omega]) dX10_person_111
              · refine lv_aload_n hx hb dX10_person_54 rfl (lv_at hl 0 rfl) ?_
                refine q_get (ci := 10) (CC := RX10) (T := TX10) (N := 24) (v := .ref mc) hx hb hts hin10 hown hK hP 0 rfl rfl 5 (by decide) (hts (.fieldLink RX10 23 "DearAsManyModel" "c" "[I") (by decide +kernel)) rfl rfl dX10_person_55 ?_
                refine lv_iload_n hx hb dX10_person_58 rfl (lv_at hl 1 rfl) ?_
                refine q_aldv (v := nI (T i 2)) hx hb hK hP 3 0 rfl rfl (by omega) (by decide) dX10_person_59 ((hMT i hwe.2).2.2.1) ?_
                refine lv_goto (tgt := 111) hx hb dX10_person_60 (by decide) ?_
                exact q_zret (v := nI (T i 2)) hx hb hr hlocks (rfl) (show nI (T i 2) = A_person T n ow P w v from by simp only [A_person, hw]; rw [if_neg (by rw [hve.1]; exact fun z => absurd ((nI_eq (by omega) (by decide)).mp z) (by omega)), if_neg (by rw [hve.1]; exact fun z => absurd ((nI_eq (by omega) (by decide)).mp z) (by omega)), hve.1, q_ixI (by omega) (by omega)]; rw [show k = 2 from by omega]) dX10_person_111
            · refine lv_aload_n hx hb dX10_person_40 rfl (lv_at hl 0 rfl) ?_
              refine q_get (ci := 10) (CC := RX10) (T := TX10) (N := 24) (v := .ref mw) hx hb hts hin10 hown hK hP 0 rfl rfl 4 (by decide) (hts (.fieldLink RX10 20 "DearAsManyModel" "w" "[I") (by decide +kernel)) rfl rfl dX10_person_41 ?_
              refine lv_iload_n hx hb dX10_person_44 rfl (lv_at hl 1 rfl) ?_
              refine q_aldv (v := nI (T i 1)) hx hb hK hP 2 0 rfl rfl (by omega) (by decide) dX10_person_45 ((hMT i hwe.2).2.1) ?_
              refine lv_goto (tgt := 111) hx hb dX10_person_46 (by decide) ?_
              exact q_zret (v := nI (T i 1)) hx hb hr hlocks (rfl) (show nI (T i 1) = A_person T n ow P w v from by simp only [A_person, hw]; rw [if_neg (by rw [hve.1]; exact fun z => absurd ((nI_eq (by omega) (by decide)).mp z) (by omega)), if_neg (by rw [hve.1]; exact fun z => absurd ((nI_eq (by omega) (by decide)).mp z) (by omega)), hve.1, q_ixI (by omega) (by omega)]; rw [show k = 1 from by omega]) dX10_person_111
          · refine lv_aload_n hx hb dX10_person_26 rfl (lv_at hl 0 rfl) ?_
            refine q_get (ci := 10) (CC := RX10) (T := TX10) (N := 24) (v := .ref mk) hx hb hts hin10 hown hK hP 0 rfl rfl 3 (by decide) (hts (.fieldLink RX10 17 "DearAsManyModel" "kind" "[I") (by decide +kernel)) rfl rfl dX10_person_27 ?_
            refine lv_iload_n hx hb dX10_person_30 rfl (lv_at hl 1 rfl) ?_
            refine q_aldv (v := nI (T i 0)) hx hb hK hP 1 0 rfl rfl (by omega) (by decide) dX10_person_31 ((hMT i hwe.2).1) ?_
            refine lv_goto (tgt := 111) hx hb dX10_person_32 (by decide) ?_
            exact q_zret (v := nI (T i 0)) hx hb hr hlocks (rfl) (show nI (T i 0) = A_person T n ow P w v from by simp only [A_person, hw]; rw [if_neg (by rw [hve.1]; exact fun z => absurd ((nI_eq (by omega) (by decide)).mp z) (by omega)), if_neg (by rw [hve.1]; exact fun z => absurd ((nI_eq (by omega) (by decide)).mp z) (by omega)), hve.1, q_ixI (by omega) (by omega)]; rw [show k = 0 from by omega]) dX10_person_111
        · exact absurd c_17 (by decide)

set_option maxHeartbeats 4000000 in
set_option maxRecDepth 100000 in
theorem c_X10_worth (l : Launch) {D : va_G} {cI cB cZ : ClassId} {ma : Nat} {mt : Nat} {mk : Nat} {mw : Nat} {mc : Nat} {mh : Nat} {mp : Nat} {mb : Nat} {me : Nat} {wp0 : Nat} {wo0 : Nat} {wb0 : Nat} {mr : Nat} {ml : Nat} {tn : Nat} {n : Nat} {ow : Nat} {uc : Nat} {kc : Nat} {sc : Nat} {ss : Int32} {at0 : Int32} {rm0 : Int32} {ro0 : Int32} {rs0 : Int32} {mK : Nat → Int32} {mW : Nat → Int32} {mC : Nat → Int32} {mH : Nat → Int32} {T : Nat → Nat → Nat} {w : Int32} {v : Int32} (hMT : q_MT T n mK mW mC mH) (hB : q_Bd T n) (hn1 : 1 ≤ n) : Met l yX10_worth wsX10_worth ({ frames := 4, cells := 0, slots := 0, locals := 90 } : Room) (va_Pc [.ref ma, .int w, .int v] (q_B D (q_tys cI cB cZ) [(ma, .inr (10, [.ref mt, .int (nI tn), .int (nI n), .ref mk, .ref mw, .ref mc, .ref mh, .ref mp, .int (nI ow), .int ss, .int (nI uc), .ref mb, .int (nI kc), .ref me, .int (nI sc), .ref wp0, .ref wo0, .ref wb0, .int at0, .int rm0, .int ro0, .int rs0, .ref mr, .ref ml])), (mk, .inl (cI, 7, .inl mK)), (mw, .inl (cI, 7, .inl mW)), (mc, .inl (cI, 7, .inl mC)), (mh, .inl (cI, 7, .inl mH))])) (vp_Si (fun r => r = A_worth T n ss w v)) 0 0 (fun _ => False) := by
  refine Met.ofW (cc := cX10_worth) (maxL := 3) (ret := (some .int)) (by decide) rfl ?_
  intro p e s m args below meth c s₁ B hml hv
  obtain ⟨rfl, hP, hK⟩ := hv
  have hx := B.exec
  have hb := B.bytes
  have hr := B.returns
  have hts := atoms_spec (ws := wsX10_worth) B.pre
  have hown : s.vm.findClass RX10 = some m.cls := findClass_of_methodNamed B.named
  have hlocks := B.notSynchronized
  have hP : va_P D vwCl [(ma, .inr (10, [.ref mt, .int (nI tn), .int (nI n), .ref mk, .ref mw, .ref mc, .ref mh, .ref mp, .int (nI ow), .int ss, .int (nI uc), .ref mb, .int (nI kc), .ref me, .int (nI sc), .ref wp0, .ref wo0, .ref wb0, .int at0, .int rm0, .int ro0, .int rs0, .ref mr, .ref ml])), (mk, .inl (cI, 7, .inl mK)), (mw, .inl (cI, 7, .inl mW)), (mc, .inl (cI, 7, .inl mC)), (mh, .inl (cI, 7, .inl mH))] s.heap := hP
  have hl := lv_entry ([.ref ma, .int w, .int v]) (n := 3) (Nat.le_of_ble_eq_true rfl)
  rw [lg_entry_eq]
  generalize (lg_sl ([.ref ma, .int w, .int v]) ++ List.replicate (3 - (lg_sl ([.ref ma, .int w, .int v])).length) Slot.unset).toArray = ls at hl ⊢
  have hl : lv_has ls 3 [(0, .ref ma), (1, .int w), (2, .int v)] := hl
  have hn7 := hB.1
  have hp2 : 2 ^ n ≤ 128 := q_p2 hB.1
  have hpp := Nat.two_pow_pos n
  rcases hw : q_ix (n) w with _ | i
  · refine lv_aload_n hx hb dX10_worth_0 rfl (lv_at hl 0 rfl) ?_
    refine lv_iload_n hx hb dX10_worth_1 rfl (lv_at hl 1 rfl) ?_
    refine q_vi (As := [.int w]) (rest := []) ⟨hx, hb, hml, hown, hts⟩ (c_X10_isPerson l (D := D) (cI := cI) (cB := cB) (cZ := cZ) (ma := ma) (mt := mt) (mk := mk) (mw := mw) (mc := mc) (mh := mh) (mp := mp) (mb := mb) (me := me) (wp0 := wp0) (wo0 := wo0) (wb0 := wb0) (mr := mr) (ml := ml) (tn := tn) (n := n) (ow := ow) (uc := uc) (kc := kc) (sc := sc) (ss := ss) (at0 := at0) (rm0 := rm0) (ro0 := ro0) (rs0 := rs0) (w := w) (by first | assumption | exact Nat.zero_le _ | omega) (by omega)) (cwV 1 hts gX10_worth_X10_isPerson rfl rfl rfl (by decide +kernel) ⟨Nat.le_of_ble_eq_true rfl, Nat.le_of_ble_eq_true rfl⟩) hK hP [0] rfl 0 10 rfl rfl rfl rfl hl.1 rfl (Nat.le_of_ble_eq_true rfl) dX10_worth_2 ⟨Nat.zero_le _, Nat.zero_le _⟩ (fun r_2 hr_2 => ?_)
    have hr_2 : bI false = r_2 := (Eq.trans (show r_2 = bI ((q_ix n w).isSome) from hr_2) (by rw [hw]; rfl)).symm
    subst hr_2
    refine q_beq (tgt := 35) hx hb dX10_worth_5 (by decide) (fun c_5 => ?_) (fun c_5 => ?_)
    · refine lv_iconst (v := (-1 : Int32)) hx hb dX10_worth_35 (by decide) ?_
      exact q_zret (v := (-1 : Int32)) hx hb hr hlocks (rfl) (show (-1 : Int32) = A_worth T n ss w v from by simp only [A_worth, hw]) dX10_worth_36
    · exact absurd c_5 (by decide)
  · have hwe := q_ixS hw
    have hl : lv_has ls 3 [(0, .ref ma), (1, .int (nI i)), (2, .int v)] := by rw [← show w = nI i from hwe.1]; exact hl
    refine lv_aload_n hx hb dX10_worth_0 rfl (lv_at hl 0 rfl) ?_
    refine lv_iload_n hx hb dX10_worth_1 rfl (lv_at hl 1 rfl) ?_
    refine q_vi (As := [.int (nI i)]) (rest := []) ⟨hx, hb, hml, hown, hts⟩ (c_X10_isPerson l (D := D) (cI := cI) (cB := cB) (cZ := cZ) (ma := ma) (mt := mt) (mk := mk) (mw := mw) (mc := mc) (mh := mh) (mp := mp) (mb := mb) (me := me) (wp0 := wp0) (wo0 := wo0) (wb0 := wb0) (mr := mr) (ml := ml) (tn := tn) (n := n) (ow := ow) (uc := uc) (kc := kc) (sc := sc) (ss := ss) (at0 := at0) (rm0 := rm0) (ro0 := ro0) (rs0 := rs0) (w := nI i) (by first | assumption | exact Nat.zero_le _ | omega) (by omega)) (cwV 1 hts gX10_worth_X10_isPerson rfl rfl rfl (by decide +kernel) ⟨Nat.le_of_ble_eq_true rfl, Nat.le_of_ble_eq_true rfl⟩) hK hP [0] rfl 0 10 rfl rfl rfl rfl hl.1 rfl (Nat.le_of_ble_eq_true rfl) dX10_worth_2 ⟨Nat.zero_le _, Nat.zero_le _⟩ (fun r_2 hr_2 => ?_)
    have hr_2 : bI true = r_2 := (Eq.trans (show r_2 = bI ((q_ix n (nI i)).isSome) from hr_2) (by rw [q_ixI hwe.2 (by omega)]; rfl)).symm
    subst hr_2
    refine q_beq (tgt := 35) hx hb dX10_worth_5 (by decide) (fun c_5 => ?_) (fun c_5 => ?_)
    · exact absurd c_5 (by decide)
    · rcases hv : q_ix (2 ^ n) v with _ | S
      · refine lv_iload_n hx hb dX10_worth_8 rfl (lv_at hl 2 rfl) ?_
        refine lv_i2l (v := v.toInt64) hx hb dX10_worth_9 (rfl) ?_
        refine lv_lconst (v := (0 : Int64)) hx hb dX10_worth_10 (by decide) ?_
        refine lv_aload_n hx hb dX10_worth_11 rfl (lv_at hl 0 rfl) ?_
        refine q_vi (As := []) (rest := [.long (0 : Int64), .long v.toInt64]) ⟨hx, hb, hml, hown, hts⟩ (c_X10_all l (D := D) (cI := cI) (cB := cB) (cZ := cZ) (ma := ma) (mt := mt) (mk := mk) (mw := mw) (mc := mc) (mh := mh) (mp := mp) (mb := mb) (me := me) (wp0 := wp0) (wo0 := wo0) (wb0 := wb0) (mr := mr) (ml := ml) (tn := tn) (n := n) (ow := ow) (uc := uc) (kc := kc) (sc := sc) (ss := ss) (at0 := at0) (rm0 := rm0) (ro0 := ro0) (rs0 := rs0) (by omega)) (cwV 0 hts gX10_worth_X10_all rfl rfl rfl (by decide +kernel) ⟨Nat.le_of_ble_eq_true rfl, Nat.le_of_ble_eq_true rfl⟩) hK hP [0] rfl 0 10 rfl rfl rfl rfl hl.1 rfl (Nat.le_of_ble_eq_true rfl) dX10_worth_12 ⟨Nat.zero_le _, Nat.zero_le _⟩ (fun r_12 hr_12 => ?_)
        have hr_12 : nI (2 ^ n - 1) = r_12 := (show r_12 = nI (2 ^ n - 1) from hr_12).symm
        subst hr_12
        refine lv_i2l (v := (nI (2 ^ n - 1)).toInt64) hx hb dX10_worth_15 (rfl) ?_
        refine q_si (As := [.long v.toInt64, .long (0 : Int64), .long ((nI (2 ^ n - 1)).toInt64)]) (rest := []) ⟨hx, hb, hml, hown, hts⟩ (c_X10_in l (D := D) (cI := cI) (cB := cB) (cZ := cZ) (a1 := v.toInt64) (b1 := (0 : Int64)) (c1 := (nI (2 ^ n - 1)).toInt64) ) (va_cwS 3 hts gX10_worth_X10_in rfl rfl rfl (by decide +kernel) ⟨Nat.le_of_ble_eq_true rfl, Nat.le_of_ble_eq_true rfl⟩) hK hP [] rfl rfl hl.1 rfl (Nat.le_of_ble_eq_true rfl) dX10_worth_16 ⟨Nat.zero_le _, Nat.zero_le _⟩ (fun r_16 hr_16 => ?_)
        have hr_16 : bI false = r_16 := (Eq.trans (show r_16 = bI (q_inb v.toInt64 (0 : Int64) ((nI (2 ^ n - 1)).toInt64)) from hr_16) (q_in0 (lo := 0) (hi := 2 ^ n - 1) (N := 2 ^ n) rfl (q_lk0 (by omega)) (by omega) hv (by omega))).symm
        subst hr_16
        refine q_beq (tgt := 35) hx hb dX10_worth_19 (by decide) (fun c_19 => ?_) (fun c_19 => ?_)
        · refine lv_iconst (v := (-1 : Int32)) hx hb dX10_worth_35 (by decide) ?_
          exact q_zret (v := (-1 : Int32)) hx hb hr hlocks (rfl) (show (-1 : Int32) = A_worth T n ss w v from by simp only [A_worth, hw, hv]) dX10_worth_36
        · exact absurd c_19 (by decide)
      · have hve := q_ixS hv
        have hl : lv_has ls 3 [(0, .ref ma), (1, .int (nI i)), (2, .int (nI S))] := by rw [← show v = nI S from hve.1]; exact hl
        refine lv_iload_n hx hb dX10_worth_8 rfl (lv_at hl 2 rfl) ?_
        refine lv_i2l (v := (nI S).toInt64) hx hb dX10_worth_9 (rfl) ?_
        refine lv_lconst (v := (0 : Int64)) hx hb dX10_worth_10 (by decide) ?_
        refine lv_aload_n hx hb dX10_worth_11 rfl (lv_at hl 0 rfl) ?_
        refine q_vi (As := []) (rest := [.long (0 : Int64), .long ((nI S).toInt64)]) ⟨hx, hb, hml, hown, hts⟩ (c_X10_all l (D := D) (cI := cI) (cB := cB) (cZ := cZ) (ma := ma) (mt := mt) (mk := mk) (mw := mw) (mc := mc) (mh := mh) (mp := mp) (mb := mb) (me := me) (wp0 := wp0) (wo0 := wo0) (wb0 := wb0) (mr := mr) (ml := ml) (tn := tn) (n := n) (ow := ow) (uc := uc) (kc := kc) (sc := sc) (ss := ss) (at0 := at0) (rm0 := rm0) (ro0 := ro0) (rs0 := rs0) (by omega)) (cwV 0 hts gX10_worth_X10_all rfl rfl rfl (by decide +kernel) ⟨Nat.le_of_ble_eq_true rfl, Nat.le_of_ble_eq_true rfl⟩) hK hP [0] rfl 0 10 rfl rfl rfl rfl hl.1 rfl (Nat.le_of_ble_eq_true rfl) dX10_worth_12 ⟨Nat.zero_le _, Nat.zero_le _⟩ (fun r_12 hr_12 => ?_)
        have hr_12 : nI (2 ^ n - 1) = r_12 := (show r_12 = nI (2 ^ n - 1) from hr_12).symm
        subst hr_12
        refine lv_i2l (v := (nI (2 ^ n - 1)).toInt64) hx hb dX10_worth_15 (rfl) ?_
        refine q_si (As := [.long ((nI S).toInt64), .long (0 : Int64), .long ((nI (2 ^ n - 1)).toInt64)]) (rest := []) ⟨hx, hb, hml, hown, hts⟩ (c_X10_in l (D := D) (cI := cI) (cB := cB) (cZ := cZ) (a1 := (nI S).toInt64) (b1 := (0 : Int64)) (c1 := (nI (2 ^ n - 1)).toInt64) ) (va_cwS 3 hts gX10_worth_X10_in rfl rfl rfl (by decide +kernel) ⟨Nat.le_of_ble_eq_true rfl, Nat.le_of_ble_eq_true rfl⟩) hK hP [] rfl rfl hl.1 rfl (Nat.le_of_ble_eq_true rfl) dX10_worth_16 ⟨Nat.zero_le _, Nat.zero_le _⟩ (fun r_16 hr_16 => ?_)
        have hr_16 : bI true = r_16 := (Eq.trans (show r_16 = bI (q_inb ((nI S).toInt64) (0 : Int64) ((nI (2 ^ n - 1)).toInt64)) from hr_16) (q_in1 (lo := 0) (hi := 2 ^ n - 1) rfl (q_lk0 (by omega)) (by omega) (by omega) (by omega))).symm
        subst hr_16
        refine q_beq (tgt := 35) hx hb dX10_worth_19 (by decide) (fun c_19 => ?_) (fun c_19 => ?_)
        · exact absurd c_19 (by decide)
        · refine lv_aload_n hx hb dX10_worth_22 rfl (lv_at hl 0 rfl) ?_
          refine lv_iload_n hx hb dX10_worth_23 rfl (lv_at hl 1 rfl) ?_
          refine lv_iload_n hx hb dX10_worth_24 rfl (lv_at hl 2 rfl) ?_
          refine q_vi (As := [.int (nI i), .int (nI S)]) (rest := []) ⟨hx, hb, hml, hown, hts⟩ (c_X10_worthOf l (D := D) (cI := cI) (cB := cB) (cZ := cZ) (ma := ma) (mt := mt) (mk := mk) (mw := mw) (mc := mc) (mh := mh) (mp := mp) (mb := mb) (me := me) (wp0 := wp0) (wo0 := wo0) (wb0 := wb0) (mr := mr) (ml := ml) (tn := tn) (n := n) (ow := ow) (uc := uc) (kc := kc) (sc := sc) (ss := ss) (at0 := at0) (rm0 := rm0) (ro0 := ro0) (rs0 := rs0) (mK := mK) (mW := mW) (mC := mC) (mH := mH) (T := T) (i := i) (S := S) (by first | assumption | exact Nat.zero_le _ | omega) (by first | assumption | exact Nat.zero_le _ | omega) (by first | assumption | exact Nat.zero_le _ | omega) (hwe.2) (hve.2)) (cwV 2 hts gX10_worth_X10_worthOf rfl rfl rfl (by decide +kernel) ⟨Nat.le_of_ble_eq_true rfl, Nat.le_of_ble_eq_true rfl⟩) hK hP [0, 1, 2, 3, 4] rfl 0 10 rfl rfl rfl rfl hl.1 rfl (Nat.le_of_ble_eq_true rfl) dX10_worth_25 ⟨Nat.zero_le _, Nat.zero_le _⟩ (fun r_25 hr_25 => ?_)
          have hr_25 : q_wor T n ss i S = r_25 := (show r_25 = q_wor T n ss i S from hr_25).symm
          subst hr_25
          refine lv_sipush (v := nI 1000) hx hb dX10_worth_28 (by decide) ?_
          refine q_iadd (v := (q_wor T n ss i S) + (nI 1000)) hx hb dX10_worth_31 (rfl) ?_
          refine lv_goto (tgt := 36) hx hb dX10_worth_32 (by decide) ?_
          exact q_zret (v := (q_wor T n ss i S) + (nI 1000)) hx hb hr hlocks (rfl) (show (q_wor T n ss i S) + (nI 1000) = A_worth T n ss w v from by simp only [A_worth, hw, hv]) dX10_worth_36

set_option maxHeartbeats 4000000 in
set_option maxRecDepth 100000 in
theorem c_X10_price (l : Launch) {D : va_G} {cI cB cZ : ClassId} {ma : Nat} {mt : Nat} {mk : Nat} {mw : Nat} {mc : Nat} {mh : Nat} {mp : Nat} {mb : Nat} {me : Nat} {wp0 : Nat} {wo0 : Nat} {wb0 : Nat} {mr : Nat} {ml : Nat} {tn : Nat} {n : Nat} {ow : Nat} {uc : Nat} {kc : Nat} {sc : Nat} {ss : Int32} {at0 : Int32} {rm0 : Int32} {ro0 : Int32} {rs0 : Int32} {mK : Nat → Int32} {mW : Nat → Int32} {mC : Nat → Int32} {mH : Nat → Int32} {T : Nat → Nat → Nat} {w : Int32} (hMT : q_MT T n mK mW mC mH) (hB : q_Bd T n) (hn1 : 1 ≤ n) (how : ow < 2 ^ n) : Met l yX10_price wsX10_price ({ frames := 3, cells := 0, slots := 0, locals := 68 } : Room) (va_Pc [.ref ma, .int w] (q_B D (q_tys cI cB cZ) [(ma, .inr (10, [.ref mt, .int (nI tn), .int (nI n), .ref mk, .ref mw, .ref mc, .ref mh, .ref mp, .int (nI ow), .int ss, .int (nI uc), .ref mb, .int (nI kc), .ref me, .int (nI sc), .ref wp0, .ref wo0, .ref wb0, .int at0, .int rm0, .int ro0, .int rs0, .ref mr, .ref ml])), (mk, .inl (cI, 7, .inl mK)), (mw, .inl (cI, 7, .inl mW)), (mc, .inl (cI, 7, .inl mC)), (mh, .inl (cI, 7, .inl mH))])) (vp_Si (fun r => r = A_price T n ow w)) 0 0 (fun _ => False) := by
  refine Met.ofW (cc := cX10_price) (maxL := 2) (ret := (some .int)) (by decide) rfl ?_
  intro p e s m args below meth c s₁ B hml hv
  obtain ⟨rfl, hP, hK⟩ := hv
  have hx := B.exec
  have hb := B.bytes
  have hr := B.returns
  have hts := atoms_spec (ws := wsX10_price) B.pre
  have hown : s.vm.findClass RX10 = some m.cls := findClass_of_methodNamed B.named
  have hlocks := B.notSynchronized
  have hin10 : ∀ w ∈ u_ws RX10 TX10 24, w ∈ wsX10_price := by decide +kernel
  have hP : va_P D vwCl [(ma, .inr (10, [.ref mt, .int (nI tn), .int (nI n), .ref mk, .ref mw, .ref mc, .ref mh, .ref mp, .int (nI ow), .int ss, .int (nI uc), .ref mb, .int (nI kc), .ref me, .int (nI sc), .ref wp0, .ref wo0, .ref wb0, .int at0, .int rm0, .int ro0, .int rs0, .ref mr, .ref ml])), (mk, .inl (cI, 7, .inl mK)), (mw, .inl (cI, 7, .inl mW)), (mc, .inl (cI, 7, .inl mC)), (mh, .inl (cI, 7, .inl mH))] s.heap := hP
  have hl := lv_entry ([.ref ma, .int w]) (n := 2) (Nat.le_of_ble_eq_true rfl)
  rw [lg_entry_eq]
  generalize (lg_sl ([.ref ma, .int w]) ++ List.replicate (2 - (lg_sl ([.ref ma, .int w])).length) Slot.unset).toArray = ls at hl ⊢
  have hl : lv_has ls 2 [(0, .ref ma), (1, .int w)] := hl
  have hn7 := hB.1
  have hp2 : 2 ^ n ≤ 128 := q_p2 hB.1
  have ho128 := q_S128 hB how
  rcases hw : q_ix (n) w with _ | i
  · refine lv_aload_n hx hb dX10_price_0 rfl (lv_at hl 0 rfl) ?_
    refine lv_iload_n hx hb dX10_price_1 rfl (lv_at hl 1 rfl) ?_
    refine q_vi (As := [.int w]) (rest := []) ⟨hx, hb, hml, hown, hts⟩ (c_X10_isPerson l (D := D) (cI := cI) (cB := cB) (cZ := cZ) (ma := ma) (mt := mt) (mk := mk) (mw := mw) (mc := mc) (mh := mh) (mp := mp) (mb := mb) (me := me) (wp0 := wp0) (wo0 := wo0) (wb0 := wb0) (mr := mr) (ml := ml) (tn := tn) (n := n) (ow := ow) (uc := uc) (kc := kc) (sc := sc) (ss := ss) (at0 := at0) (rm0 := rm0) (ro0 := ro0) (rs0 := rs0) (w := w) (by first | assumption | exact Nat.zero_le _ | omega) (by omega)) (cwV 1 hts gX10_price_X10_isPerson rfl rfl rfl (by decide +kernel) ⟨Nat.le_of_ble_eq_true rfl, Nat.le_of_ble_eq_true rfl⟩) hK hP [0] rfl 0 10 rfl rfl rfl rfl hl.1 rfl (Nat.le_of_ble_eq_true rfl) dX10_price_2 ⟨Nat.zero_le _, Nat.zero_le _⟩ (fun r_2 hr_2 => ?_)
    have hr_2 : bI false = r_2 := (Eq.trans (show r_2 = bI ((q_ix n w).isSome) from hr_2) (by rw [hw]; rfl)).symm
    subst hr_2
    refine q_bne (tgt := 10) hx hb dX10_price_5 (by decide) (fun c_5 => ?_) (fun c_5 => ?_)
    · exact absurd c_5 (by decide)
    · refine lv_iconst (v := (-1 : Int32)) hx hb dX10_price_8 (by decide) ?_
      exact q_zret (v := (-1 : Int32)) hx hb hr hlocks (rfl) (show (-1 : Int32) = A_price T n ow w from by simp only [A_price, hw]) dX10_price_9
  · have hwe := q_ixS hw
    have hl : lv_has ls 2 [(0, .ref ma), (1, .int (nI i))] := by rw [← show w = nI i from hwe.1]; exact hl
    refine lv_aload_n hx hb dX10_price_0 rfl (lv_at hl 0 rfl) ?_
    refine lv_iload_n hx hb dX10_price_1 rfl (lv_at hl 1 rfl) ?_
    refine q_vi (As := [.int (nI i)]) (rest := []) ⟨hx, hb, hml, hown, hts⟩ (c_X10_isPerson l (D := D) (cI := cI) (cB := cB) (cZ := cZ) (ma := ma) (mt := mt) (mk := mk) (mw := mw) (mc := mc) (mh := mh) (mp := mp) (mb := mb) (me := me) (wp0 := wp0) (wo0 := wo0) (wb0 := wb0) (mr := mr) (ml := ml) (tn := tn) (n := n) (ow := ow) (uc := uc) (kc := kc) (sc := sc) (ss := ss) (at0 := at0) (rm0 := rm0) (ro0 := ro0) (rs0 := rs0) (w := nI i) (by first | assumption | exact Nat.zero_le _ | omega) (by omega)) (cwV 1 hts gX10_price_X10_isPerson rfl rfl rfl (by decide +kernel) ⟨Nat.le_of_ble_eq_true rfl, Nat.le_of_ble_eq_true rfl⟩) hK hP [0] rfl 0 10 rfl rfl rfl rfl hl.1 rfl (Nat.le_of_ble_eq_true rfl) dX10_price_2 ⟨Nat.zero_le _, Nat.zero_le _⟩ (fun r_2 hr_2 => ?_)
    have hr_2 : bI true = r_2 := (Eq.trans (show r_2 = bI ((q_ix n (nI i)).isSome) from hr_2) (by rw [q_ixI hwe.2 (by omega)]; rfl)).symm
    subst hr_2
    refine q_bne (tgt := 10) hx hb dX10_price_5 (by decide) (fun c_5 => ?_) (fun c_5 => ?_)
    · refine lv_aload_n hx hb dX10_price_10 rfl (lv_at hl 0 rfl) ?_
      refine q_get (ci := 10) (CC := RX10) (T := TX10) (N := 24) (v := .int (nI ow)) hx hb hts hin10 hown hK hP 0 rfl rfl 8 (by decide) (hts (.fieldLink RX10 107 "DearAsManyModel" "owners" "I") (by decide +kernel)) rfl rfl dX10_price_11 ?_
      refine lv_iload_n hx hb dX10_price_14 rfl (lv_at hl 1 rfl) ?_
      refine q_si (As := [.int (nI ow), .int (nI i)]) (rest := []) ⟨hx, hb, hml, hown, hts⟩ (c_X10_has l (D := D) (cI := cI) (cB := cB) (cZ := cZ) (S := ow) (i := i) (by omega) (by omega)) (va_cwS 2 hts gX10_price_X10_has rfl rfl rfl (by decide +kernel) ⟨Nat.le_of_ble_eq_true rfl, Nat.le_of_ble_eq_true rfl⟩) hK hP [] rfl rfl hl.1 rfl (Nat.le_of_ble_eq_true rfl) dX10_price_15 ⟨Nat.zero_le _, Nat.zero_le _⟩ (fun r_15 hr_15 => ?_)
      have hr_15 : bI (ow.testBit i) = r_15 := (show r_15 = bI (ow.testBit i) from hr_15).symm
      subst hr_15
      refine q_beq (tgt := 26) hx hb dX10_price_18 (by decide) (fun c_18 => ?_) (fun c_18 => ?_)
      · refine lv_aload_n hx hb dX10_price_26 rfl (lv_at hl 0 rfl) ?_
        refine lv_iload_n hx hb dX10_price_27 rfl (lv_at hl 1 rfl) ?_
        refine lv_aload_n hx hb dX10_price_28 rfl (lv_at hl 0 rfl) ?_
        refine q_get (ci := 10) (CC := RX10) (T := TX10) (N := 24) (v := .int (nI ow)) hx hb hts hin10 hown hK hP 0 rfl rfl 8 (by decide) (hts (.fieldLink RX10 107 "DearAsManyModel" "owners" "I") (by decide +kernel)) rfl rfl dX10_price_29 ?_
        refine q_vi (As := [.int (nI i), .int (nI ow)]) (rest := []) ⟨hx, hb, hml, hown, hts⟩ (c_X10_others l (D := D) (cI := cI) (cB := cB) (cZ := cZ) (ma := ma) (mt := mt) (mk := mk) (mw := mw) (mc := mc) (mh := mh) (mp := mp) (mb := mb) (me := me) (wp0 := wp0) (wo0 := wo0) (wb0 := wb0) (mr := mr) (ml := ml) (tn := tn) (n := n) (ow := ow) (uc := uc) (kc := kc) (sc := sc) (ss := ss) (at0 := at0) (rm0 := rm0) (ro0 := ro0) (rs0 := rs0) (mK := mK) (mW := mW) (mC := mC) (mH := mH) (T := T) (i := i) (S := ow) (by first | assumption | exact Nat.zero_le _ | omega) (by first | assumption | exact Nat.zero_le _ | omega) (by first | assumption | exact Nat.zero_le _ | omega) (hwe.2) (how)) (cwV 2 hts gX10_price_X10_others rfl rfl rfl (by decide +kernel) ⟨Nat.le_of_ble_eq_true rfl, Nat.le_of_ble_eq_true rfl⟩) hK hP [0, 1, 2, 3, 4] rfl 0 10 rfl rfl rfl rfl hl.1 rfl (Nat.le_of_ble_eq_true rfl) dX10_price_32 ⟨Nat.zero_le _, Nat.zero_le _⟩ (fun r_32 hr_32 => ?_)
        have hr_32 : nI (q_oth T n i ow) = r_32 := (show r_32 = nI (q_oth T n i ow) from hr_32).symm
        subst hr_32
        exact q_zret (v := nI (q_oth T n i ow)) hx hb hr hlocks (rfl) (show nI (q_oth T n i ow) = A_price T n ow w from by simp only [A_price, hw, c_18]; rfl) dX10_price_35
      · refine lv_bipush (v := (-2 : Int32)) hx hb dX10_price_21 (by decide) ?_
        refine lv_goto (tgt := 35) hx hb dX10_price_23 (by decide) ?_
        exact q_zret (v := (-2 : Int32)) hx hb hr hlocks (rfl) (show (-2 : Int32) = A_price T n ow w from by simp only [A_price, hw, c_18]; rfl) dX10_price_35
    · exact absurd c_5 (by decide)

set_option maxHeartbeats 4000000 in
set_option maxRecDepth 100000 in
theorem c_X10_would (l : Launch) {D : va_G} {cI cB cZ : ClassId} {ma : Nat} {mt : Nat} {mk : Nat} {mw : Nat} {mc : Nat} {mh : Nat} {mp : Nat} {mb : Nat} {me : Nat} {wp0 : Nat} {wo0 : Nat} {wb0 : Nat} {mr : Nat} {ml : Nat} {tn : Nat} {n : Nat} {ow : Nat} {uc : Nat} {kc : Nat} {sc : Nat} {ss : Int32} {at0 : Int32} {rm0 : Int32} {ro0 : Int32} {rs0 : Int32} {mK : Nat → Int32} {mW : Nat → Int32} {mC : Nat → Int32} {mH : Nat → Int32} {T : Nat → Nat → Nat} {w : Int32} (hMT : q_MT T n mK mW mC mH) (hB : q_Bd T n) (hn1 : 1 ≤ n) (how : ow < 2 ^ n) : Met l yX10_would wsX10_would ({ frames := 5, cells := 0, slots := 0, locals := 112 } : Room) (va_Pc [.ref ma, .int w] (q_B D (q_tys cI cB cZ) [(ma, .inr (10, [.ref mt, .int (nI tn), .int (nI n), .ref mk, .ref mw, .ref mc, .ref mh, .ref mp, .int (nI ow), .int ss, .int (nI uc), .ref mb, .int (nI kc), .ref me, .int (nI sc), .ref wp0, .ref wo0, .ref wb0, .int at0, .int rm0, .int ro0, .int rs0, .ref mr, .ref ml])), (mk, .inl (cI, 7, .inl mK)), (mw, .inl (cI, 7, .inl mW)), (mc, .inl (cI, 7, .inl mC)), (mh, .inl (cI, 7, .inl mH))])) (vp_Si (fun r => r = A_would T n ss ow w)) 0 0 (fun _ => False) := by
  refine Met.ofW (cc := cX10_would) (maxL := 4) (ret := (some .int)) (by decide) rfl ?_
  intro p e s m args below meth c s₁ B hml hv
  obtain ⟨rfl, hP, hK⟩ := hv
  have hx := B.exec
  have hb := B.bytes
  have hr := B.returns
  have hts := atoms_spec (ws := wsX10_would) B.pre
  have hown : s.vm.findClass RX10 = some m.cls := findClass_of_methodNamed B.named
  have hlocks := B.notSynchronized
  have hin10 : ∀ w ∈ u_ws RX10 TX10 24, w ∈ wsX10_would := by decide +kernel
  have hP : va_P D vwCl [(ma, .inr (10, [.ref mt, .int (nI tn), .int (nI n), .ref mk, .ref mw, .ref mc, .ref mh, .ref mp, .int (nI ow), .int ss, .int (nI uc), .ref mb, .int (nI kc), .ref me, .int (nI sc), .ref wp0, .ref wo0, .ref wb0, .int at0, .int rm0, .int ro0, .int rs0, .ref mr, .ref ml])), (mk, .inl (cI, 7, .inl mK)), (mw, .inl (cI, 7, .inl mW)), (mc, .inl (cI, 7, .inl mC)), (mh, .inl (cI, 7, .inl mH))] s.heap := hP
  have hl := lv_entry ([.ref ma, .int w]) (n := 4) (Nat.le_of_ble_eq_true rfl)
  rw [lg_entry_eq]
  generalize (lg_sl ([.ref ma, .int w]) ++ List.replicate (4 - (lg_sl ([.ref ma, .int w])).length) Slot.unset).toArray = ls at hl ⊢
  have hl : lv_has ls 4 [(0, .ref ma), (1, .int w)] := hl
  have hn7 := hB.1
  have hp2 : 2 ^ n ≤ 128 := q_p2 hB.1
  have ho128 := q_S128 hB how
  have L16 : ∀ (fuel : Nat) (i : Nat) (hi : i ≤ n) (hv : q_eit w = true) (hf : n - i < fuel) (ls : Array Slot) (hl : lv_has ls 4 [(0, .ref ma), (1, .int w), (2, .int (nI (q_ws T n ss ow w i))), (3, .int (nI i))]), W p l e (headSpec wsX10_would ({ frames := 5, cells := 0, slots := 0, locals := 112 } : Room)).room s m ([.ref ma, .int w] : List Value).toArray below meth c s.heap [] 0 0 (MQ below (vp_Si (fun r => r = A_would T n ss ow w)) ([.ref ma, .int w] : List Value).toArray s 0 0 (fun _ => False)) (F0 m 16 ls []) := by
    intro fuel
    induction fuel with
    | zero =>
      intro i hi hv hf ls hl
      exact absurd hf (Nat.not_lt_zero _)
    | succ fuel ih16 =>
      intro i hi hv hf ls hl
      refine lv_iload_n hx hb dX10_would_16 rfl (lv_at hl 3 rfl) ?_
      refine lv_aload_n hx hb dX10_would_17 rfl (lv_at hl 0 rfl) ?_
      refine q_get (ci := 10) (CC := RX10) (T := TX10) (N := 24) (v := .int (nI n)) hx hb hts hin10 hown hK hP 0 rfl rfl 2 (by decide) (hts (.fieldLink RX10 13 "DearAsManyModel" "many" "I") (by decide +kernel)) rfl rfl dX10_would_18 ?_
      refine q_nge (tgt := 71) hx hb dX10_would_21 (by decide) (by omega) (by omega) (fun c_21 => ?_) (fun c_21 => ?_)
      · refine lv_iload_n hx hb dX10_would_71 rfl (lv_at hl 2 rfl) ?_
        exact q_zret (v := nI (q_ws T n ss ow w i)) hx hb hr hlocks (rfl) (show nI (q_ws T n ss ow w i) = A_would T n ss ow w from by rw [show i = n from by omega]; exact q_wsE hv ho128 hn7) dX10_would_72
      · refine lv_iload_n hx hb dX10_would_24 rfl (lv_at hl 2 rfl) ?_
        refine lv_iload_n hx hb dX10_would_25 rfl (lv_at hl 1 rfl) ?_
        refine lv_if_ne (x := w) (tgt := 44) hx hb dX10_would_26 (by decide) (fun c_26 => ?_) (fun c_26 => ?_)
        · refine lv_aload_n hx hb dX10_would_44 rfl (lv_at hl 0 rfl) ?_
          refine lv_iload_n hx hb dX10_would_45 rfl (lv_at hl 3 rfl) ?_
          refine lv_aload_n hx hb dX10_would_46 rfl (lv_at hl 0 rfl) ?_
          refine q_get (ci := 10) (CC := RX10) (T := TX10) (N := 24) (v := .int (nI ow)) hx hb hts hin10 hown hK hP 0 rfl rfl 8 (by decide) (hts (.fieldLink RX10 107 "DearAsManyModel" "owners" "I") (by decide +kernel)) rfl rfl dX10_would_47 ?_
          refine q_vi (As := [.int (nI i), .int (nI ow)]) (rest := [.int (nI (q_ws T n ss ow w i))]) ⟨hx, hb, hml, hown, hts⟩ (c_X10_wouldThrow l (D := D) (cI := cI) (cB := cB) (cZ := cZ) (ma := ma) (mt := mt) (mk := mk) (mw := mw) (mc := mc) (mh := mh) (mp := mp) (mb := mb) (me := me) (wp0 := wp0) (wo0 := wo0) (wb0 := wb0) (mr := mr) (ml := ml) (tn := tn) (n := n) (ow := ow) (uc := uc) (kc := kc) (sc := sc) (ss := ss) (at0 := at0) (rm0 := rm0) (ro0 := ro0) (rs0 := rs0) (mK := mK) (mW := mW) (mC := mC) (mH := mH) (T := T) (i := i) (S := ow) (by first | assumption | exact Nat.zero_le _ | omega) (by first | assumption | exact Nat.zero_le _ | omega) (by first | assumption | exact Nat.zero_le _ | omega) (by omega) (how)) (cwV 2 hts gX10_would_X10_wouldThrow rfl rfl rfl (by decide +kernel) ⟨Nat.le_of_ble_eq_true rfl, Nat.le_of_ble_eq_true rfl⟩) hK hP [0, 1, 2, 3, 4] rfl 0 10 rfl rfl rfl rfl hl.1 rfl (Nat.le_of_ble_eq_true rfl) dX10_would_50 ⟨Nat.zero_le _, Nat.zero_le _⟩ (fun r_50 hr_50 => ?_)
          have hr_50 : bI (q_wT T n ss i ow) = r_50 := (show r_50 = bI (q_wT T n ss i ow) from hr_50).symm
          subst hr_50
          refine q_beq (tgt := 62) hx hb dX10_would_53 (by decide) (fun c_53 => ?_) (fun c_53 => ?_)
          · refine lv_iconst (v := nI 0) hx hb dX10_would_62 (by decide) ?_
            refine q_ior (v := nI ((q_ws T n ss ow w i) ||| 0)) hx hb dX10_would_63 (q_or _ _) ?_
            refine lv_istore_n (lv' := [(2, .int (nI ((q_ws T n ss ow w i) ||| 0))), (0, .ref ma), (1, .int w), (3, .int (nI i))]) hx hb dX10_would_64 rfl hl (by decide) rfl (fun ls hl => ?_)
            refine lv_iinc (v := nI (i + 1)) (lv' := [(3, .int (nI (i + 1))), (2, .int (nI ((q_ws T n ss ow w i) ||| 0))), (0, .ref ma), (1, .int w)]) hx hb dX10_would_65 hl (k := 3) rfl (nI_add _ 1) (by decide) rfl (fun ls hl => ?_)
            refine lv_goto (tgt := 16) hx hb dX10_would_68 (by decide) ?_
            have hl : lv_has ls 4 [(3, .int (nI (i + 1))), (2, .int (nI (q_ws T n ss ow w (i + 1)))), (0, .ref ma), (1, .int w)] := by rw [← show nI ((q_ws T n ss ow w i) ||| 0) = nI (q_ws T n ss ow w (i + 1)) from by rw [Nat.or_zero, q_wsF1 (show ¬ w = nI 0 from c_26) c_53]]; exact hl
            exact ih16 (i + 1) (by first | assumption | exact Nat.zero_le _ | omega) (hv) (by omega) ls (lv_sub hl [2, 3, 1, 0] rfl)
          · refine lv_iconst (v := nI 1) hx hb dX10_would_56 (by decide) ?_
            refine lv_iload_n hx hb dX10_would_57 rfl (lv_at hl 3 rfl) ?_
            refine q_ishl (v := nI (2 ^ i)) hx hb dX10_would_58 (q_shl1 (by omega)) ?_
            refine lv_goto (tgt := 63) hx hb dX10_would_59 (by decide) ?_
            refine q_ior (v := nI ((q_ws T n ss ow w i) ||| (2 ^ i))) hx hb dX10_would_63 (q_or _ _) ?_
            refine lv_istore_n (lv' := [(2, .int (nI ((q_ws T n ss ow w i) ||| (2 ^ i)))), (0, .ref ma), (1, .int w), (3, .int (nI i))]) hx hb dX10_would_64 rfl hl (by decide) rfl (fun ls hl => ?_)
            refine lv_iinc (v := nI (i + 1)) (lv' := [(3, .int (nI (i + 1))), (2, .int (nI ((q_ws T n ss ow w i) ||| (2 ^ i)))), (0, .ref ma), (1, .int w)]) hx hb dX10_would_65 hl (k := 3) rfl (nI_add _ 1) (by decide) rfl (fun ls hl => ?_)
            refine lv_goto (tgt := 16) hx hb dX10_would_68 (by decide) ?_
            have hl : lv_has ls 4 [(3, .int (nI (i + 1))), (2, .int (nI (q_ws T n ss ow w (i + 1)))), (0, .ref ma), (1, .int w)] := by rw [← show nI ((q_ws T n ss ow w i) ||| (2 ^ i)) = nI (q_ws T n ss ow w (i + 1)) from by rw [q_wsT1 (show ¬ w = nI 0 from c_26) c_53]]; exact hl
            exact ih16 (i + 1) (by first | assumption | exact Nat.zero_le _ | omega) (hv) (by omega) ls (lv_sub hl [2, 3, 1, 0] rfl)
        · refine lv_aload_n hx hb dX10_would_29 rfl (lv_at hl 0 rfl) ?_
          refine lv_iload_n hx hb dX10_would_30 rfl (lv_at hl 3 rfl) ?_
          refine lv_aload_n hx hb dX10_would_31 rfl (lv_at hl 0 rfl) ?_
          refine q_get (ci := 10) (CC := RX10) (T := TX10) (N := 24) (v := .int (nI ow)) hx hb hts hin10 hown hK hP 0 rfl rfl 8 (by decide) (hts (.fieldLink RX10 107 "DearAsManyModel" "owners" "I") (by decide +kernel)) rfl rfl dX10_would_32 ?_
          refine q_vi (As := [.int (nI i), .int (nI ow)]) (rest := [.int (nI (q_ws T n ss ow w i))]) ⟨hx, hb, hml, hown, hts⟩ (c_X10_wouldBuy l (D := D) (cI := cI) (cB := cB) (cZ := cZ) (ma := ma) (mt := mt) (mk := mk) (mw := mw) (mc := mc) (mh := mh) (mp := mp) (mb := mb) (me := me) (wp0 := wp0) (wo0 := wo0) (wb0 := wb0) (mr := mr) (ml := ml) (tn := tn) (n := n) (ow := ow) (uc := uc) (kc := kc) (sc := sc) (ss := ss) (at0 := at0) (rm0 := rm0) (ro0 := ro0) (rs0 := rs0) (mK := mK) (mW := mW) (mC := mC) (mH := mH) (T := T) (i := i) (S := ow) (by first | assumption | exact Nat.zero_le _ | omega) (by first | assumption | exact Nat.zero_le _ | omega) (by first | assumption | exact Nat.zero_le _ | omega) (by omega) (how)) (cwV 2 hts gX10_would_X10_wouldBuy rfl rfl rfl (by decide +kernel) ⟨Nat.le_of_ble_eq_true rfl, Nat.le_of_ble_eq_true rfl⟩) hK hP [0, 1, 2, 3, 4] rfl 0 10 rfl rfl rfl rfl hl.1 rfl (Nat.le_of_ble_eq_true rfl) dX10_would_35 ⟨Nat.zero_le _, Nat.zero_le _⟩ (fun r_35 hr_35 => ?_)
          have hr_35 : bI (q_wB T n ss i ow) = r_35 := (show r_35 = bI (q_wB T n ss i ow) from hr_35).symm
          subst hr_35
          refine q_beq (tgt := 62) hx hb dX10_would_38 (by decide) (fun c_38 => ?_) (fun c_38 => ?_)
          · refine lv_iconst (v := nI 0) hx hb dX10_would_62 (by decide) ?_
            refine q_ior (v := nI ((q_ws T n ss ow w i) ||| 0)) hx hb dX10_would_63 (q_or _ _) ?_
            refine lv_istore_n (lv' := [(2, .int (nI ((q_ws T n ss ow w i) ||| 0))), (0, .ref ma), (1, .int w), (3, .int (nI i))]) hx hb dX10_would_64 rfl hl (by decide) rfl (fun ls hl => ?_)
            refine lv_iinc (v := nI (i + 1)) (lv' := [(3, .int (nI (i + 1))), (2, .int (nI ((q_ws T n ss ow w i) ||| 0))), (0, .ref ma), (1, .int w)]) hx hb dX10_would_65 hl (k := 3) rfl (nI_add _ 1) (by decide) rfl (fun ls hl => ?_)
            refine lv_goto (tgt := 16) hx hb dX10_would_68 (by decide) ?_
            have hl : lv_has ls 4 [(3, .int (nI (i + 1))), (2, .int (nI (q_ws T n ss ow w (i + 1)))), (0, .ref ma), (1, .int w)] := by rw [← show nI ((q_ws T n ss ow w i) ||| 0) = nI (q_ws T n ss ow w (i + 1)) from by rw [Nat.or_zero, q_wsF0 (show w = nI 0 from c_26) c_38]]; exact hl
            exact ih16 (i + 1) (by first | assumption | exact Nat.zero_le _ | omega) (hv) (by omega) ls (lv_sub hl [2, 3, 1, 0] rfl)
          · refine lv_goto (tgt := 56) hx hb dX10_would_41 (by decide) ?_
            refine lv_iconst (v := nI 1) hx hb dX10_would_56 (by decide) ?_
            refine lv_iload_n hx hb dX10_would_57 rfl (lv_at hl 3 rfl) ?_
            refine q_ishl (v := nI (2 ^ i)) hx hb dX10_would_58 (q_shl1 (by omega)) ?_
            refine lv_goto (tgt := 63) hx hb dX10_would_59 (by decide) ?_
            refine q_ior (v := nI ((q_ws T n ss ow w i) ||| (2 ^ i))) hx hb dX10_would_63 (q_or _ _) ?_
            refine lv_istore_n (lv' := [(2, .int (nI ((q_ws T n ss ow w i) ||| (2 ^ i)))), (0, .ref ma), (1, .int w), (3, .int (nI i))]) hx hb dX10_would_64 rfl hl (by decide) rfl (fun ls hl => ?_)
            refine lv_iinc (v := nI (i + 1)) (lv' := [(3, .int (nI (i + 1))), (2, .int (nI ((q_ws T n ss ow w i) ||| (2 ^ i)))), (0, .ref ma), (1, .int w)]) hx hb dX10_would_65 hl (k := 3) rfl (nI_add _ 1) (by decide) rfl (fun ls hl => ?_)
            refine lv_goto (tgt := 16) hx hb dX10_would_68 (by decide) ?_
            have hl : lv_has ls 4 [(3, .int (nI (i + 1))), (2, .int (nI (q_ws T n ss ow w (i + 1)))), (0, .ref ma), (1, .int w)] := by rw [← show nI ((q_ws T n ss ow w i) ||| (2 ^ i)) = nI (q_ws T n ss ow w (i + 1)) from by rw [q_wsT0 (show w = nI 0 from c_26) c_38]]; exact hl
            exact ih16 (i + 1) (by first | assumption | exact Nat.zero_le _ | omega) (hv) (by omega) ls (lv_sub hl [2, 3, 1, 0] rfl)
  refine lv_iload_n hx hb dX10_would_0 rfl (lv_at hl 1 rfl) ?_
  refine lv_i2l (v := w.toInt64) hx hb dX10_would_1 (rfl) ?_
  refine lv_lconst (v := (0 : Int64)) hx hb dX10_would_2 (by decide) ?_
  refine lv_lconst (v := (1 : Int64)) hx hb dX10_would_3 (by decide) ?_
  refine q_si (As := [.long w.toInt64, .long (0 : Int64), .long (1 : Int64)]) (rest := []) ⟨hx, hb, hml, hown, hts⟩ (c_X10_in l (D := D) (cI := cI) (cB := cB) (cZ := cZ) (a1 := w.toInt64) (b1 := (0 : Int64)) (c1 := (1 : Int64)) ) (va_cwS 3 hts gX10_would_X10_in rfl rfl rfl (by decide +kernel) ⟨Nat.le_of_ble_eq_true rfl, Nat.le_of_ble_eq_true rfl⟩) hK hP [] rfl rfl hl.1 rfl (Nat.le_of_ble_eq_true rfl) dX10_would_4 ⟨Nat.zero_le _, Nat.zero_le _⟩ (fun r_4 hr_4 => ?_)
  have hr_4 : bI (q_eit w) = r_4 := (Eq.trans (show r_4 = bI (q_inb w.toInt64 (0 : Int64) (1 : Int64)) from hr_4) (q_inEit _)).symm
  subst hr_4
  refine q_bne (tgt := 12) hx hb dX10_would_7 (by decide) (fun c_7 => ?_) (fun c_7 => ?_)
  · refine lv_iconst (v := nI 0) hx hb dX10_would_12 (by decide) ?_
    refine lv_istore_n (lv' := [(2, .int (nI 0)), (0, .ref ma), (1, .int w)]) hx hb dX10_would_13 rfl hl (by decide) rfl (fun ls hl => ?_)
    refine lv_iconst (v := nI 0) hx hb dX10_would_14 (by decide) ?_
    refine lv_istore_n (lv' := [(3, .int (nI 0)), (2, .int (nI 0)), (0, .ref ma), (1, .int w)]) hx hb dX10_would_15 rfl hl (by decide) rfl (fun ls hl => ?_)
    exact L16 _ 0 (Nat.zero_le _) (c_7) (Nat.lt_succ_self _) ls (lv_sub hl [2, 3, 1, 0] rfl)
  · refine lv_iconst (v := (-1 : Int32)) hx hb dX10_would_10 (by decide) ?_
    exact q_zret (v := (-1 : Int32)) hx hb hr hlocks (rfl) (show (-1 : Int32) = A_would T n ss ow w from by rw [A_would, if_neg (q_eitN c_7).1, if_neg (q_eitN c_7).2]) dX10_would_11

set_option maxHeartbeats 4000000 in
set_option maxRecDepth 100000 in
theorem c_X10_behind (l : Launch) {D : va_G} {cI cB cZ : ClassId} {ma : Nat} {mt : Nat} {mk : Nat} {mw : Nat} {mc : Nat} {mh : Nat} {mp : Nat} {mb : Nat} {me : Nat} {wp0 : Nat} {wo0 : Nat} {wb0 : Nat} {mr : Nat} {ml : Nat} {tn : Nat} {n : Nat} {ow : Nat} {uc : Nat} {kc : Nat} {sc : Nat} {ss : Int32} {at0 : Int32} {rm0 : Int32} {ro0 : Int32} {rs0 : Int32} {mK : Nat → Int32} {mW : Nat → Int32} {mC : Nat → Int32} {mH : Nat → Int32} {T : Nat → Nat → Nat} {w : Int32} {t : Bool} (hMT : q_MT T n mK mW mC mH) (hB : q_Bd T n) (hn1 : 1 ≤ n) (how : ow < 2 ^ n) : Met l yX10_behind wsX10_behind ({ frames := 6, cells := 0, slots := 0, locals := 137 } : Room) (va_Pc [.ref ma, .int w, .int (bI t)] (q_B D (q_tys cI cB cZ) [(ma, .inr (10, [.ref mt, .int (nI tn), .int (nI n), .ref mk, .ref mw, .ref mc, .ref mh, .ref mp, .int (nI ow), .int ss, .int (nI uc), .ref mb, .int (nI kc), .ref me, .int (nI sc), .ref wp0, .ref wo0, .ref wb0, .int at0, .int rm0, .int ro0, .int rs0, .ref mr, .ref ml])), (mk, .inl (cI, 7, .inl mK)), (mw, .inl (cI, 7, .inl mW)), (mc, .inl (cI, 7, .inl mC)), (mh, .inl (cI, 7, .inl mH))])) (vp_Si (fun r => r = A_behind T n ss ow w t)) 0 0 (fun _ => False) := by
  refine Met.ofW (cc := cX10_behind) (maxL := 5) (ret := (some .int)) (by decide) rfl ?_
  intro p e s m args below meth c s₁ B hml hv
  obtain ⟨rfl, hP, hK⟩ := hv
  have hx := B.exec
  have hb := B.bytes
  have hr := B.returns
  have hts := atoms_spec (ws := wsX10_behind) B.pre
  have hown : s.vm.findClass RX10 = some m.cls := findClass_of_methodNamed B.named
  have hlocks := B.notSynchronized
  have hin10 : ∀ w ∈ u_ws RX10 TX10 24, w ∈ wsX10_behind := by decide +kernel
  have hP : va_P D vwCl [(ma, .inr (10, [.ref mt, .int (nI tn), .int (nI n), .ref mk, .ref mw, .ref mc, .ref mh, .ref mp, .int (nI ow), .int ss, .int (nI uc), .ref mb, .int (nI kc), .ref me, .int (nI sc), .ref wp0, .ref wo0, .ref wb0, .int at0, .int rm0, .int ro0, .int rs0, .ref mr, .ref ml])), (mk, .inl (cI, 7, .inl mK)), (mw, .inl (cI, 7, .inl mW)), (mc, .inl (cI, 7, .inl mC)), (mh, .inl (cI, 7, .inl mH))] s.heap := hP
  have hl := lv_entry ([.ref ma, .int w, .int (bI t)]) (n := 5) (Nat.le_of_ble_eq_true rfl)
  rw [lg_entry_eq]
  generalize (lg_sl ([.ref ma, .int w, .int (bI t)]) ++ List.replicate (5 - (lg_sl ([.ref ma, .int w, .int (bI t)])).length) Slot.unset).toArray = ls at hl ⊢
  have hl : lv_has ls 5 [(0, .ref ma), (1, .int w), (2, .int (bI t))] := hl
  have hn7 := hB.1
  have hp2 : 2 ^ n ≤ 128 := q_p2 hB.1
  have ho128 := q_S128 hB how
  have L22 : ∀ (fuel : Nat) (k : Nat) (q : Nat) (hk : k ≤ q) (hq9 : q_ix 61 w = some q ∧ q ≤ 60) (hf : q - k < fuel) (ls : Array Slot) (hl : lv_has ls 5 [(0, .ref ma), (1, .int (nI q)), (2, .int (bI t)), (3, .int (nI (q_it (q_rd T n ss t) k ow))), (4, .int (nI k))]), W p l e (headSpec wsX10_behind ({ frames := 6, cells := 0, slots := 0, locals := 137 } : Room)).room s m ([.ref ma, .int w, .int (bI t)] : List Value).toArray below meth c s.heap [] 0 0 (MQ below (vp_Si (fun r => r = A_behind T n ss ow w t)) ([.ref ma, .int w, .int (bI t)] : List Value).toArray s 0 0 (fun _ => False)) (F0 m 22 ls []) := by
    intro fuel
    induction fuel with
    | zero =>
      intro k q hk hq9 hf ls hl
      exact absurd hf (Nat.not_lt_zero _)
    | succ fuel ih22 =>
      intro k q hk hq9 hf ls hl
      refine lv_iload hx hb dX10_behind_22 (lv_at hl 4 rfl) ?_
      refine lv_iload_n hx hb dX10_behind_24 rfl (lv_at hl 1 rfl) ?_
      refine q_nge (tgt := 41) hx hb dX10_behind_25 (by decide) (by omega) (by omega) (fun c_25 => ?_) (fun c_25 => ?_)
      · refine lv_iload_n hx hb dX10_behind_41 rfl (lv_at hl 3 rfl) ?_
        exact q_zret (v := nI (q_it (q_rd T n ss t) k ow)) hx hb hr hlocks (rfl) (show nI (q_it (q_rd T n ss t) k ow) = A_behind T n ss ow w t from by simp only [A_behind, hq9.1]; rw [show k = q from by omega]) dX10_behind_42
      · refine lv_aload_n hx hb dX10_behind_28 rfl (lv_at hl 0 rfl) ?_
        refine lv_iload_n hx hb dX10_behind_29 rfl (lv_at hl 3 rfl) ?_
        refine lv_iload_n hx hb dX10_behind_30 rfl (lv_at hl 2 rfl) ?_
        refine q_vi (As := [.int (nI (q_it (q_rd T n ss t) k ow)), .int (bI t)]) (rest := []) ⟨hx, hb, hml, hown, hts⟩ (c_X10_round l (D := D) (cI := cI) (cB := cB) (cZ := cZ) (ma := ma) (mt := mt) (mk := mk) (mw := mw) (mc := mc) (mh := mh) (mp := mp) (mb := mb) (me := me) (wp0 := wp0) (wo0 := wo0) (wb0 := wb0) (mr := mr) (ml := ml) (tn := tn) (n := n) (ow := ow) (uc := uc) (kc := kc) (sc := sc) (ss := ss) (at0 := at0) (rm0 := rm0) (ro0 := ro0) (rs0 := rs0) (mK := mK) (mW := mW) (mC := mC) (mH := mH) (T := T) (S := q_it (q_rd T n ss t) k ow) (t := t) (by first | assumption | exact Nat.zero_le _ | omega) (by first | assumption | exact Nat.zero_le _ | omega) (by first | assumption | exact Nat.zero_le _ | omega) (q_it_lt (f := q_rd T n ss t) (fun x hx => q_rd_lt hx) how _)) (cwV 2 hts gX10_behind_X10_round rfl rfl rfl (by decide +kernel) ⟨Nat.le_of_ble_eq_true rfl, Nat.le_of_ble_eq_true rfl⟩) hK hP [0, 1, 2, 3, 4] rfl 0 10 rfl rfl rfl rfl hl.1 rfl (Nat.le_of_ble_eq_true rfl) dX10_behind_31 ⟨Nat.zero_le _, Nat.zero_le _⟩ (fun r_31 hr_31 => ?_)
        have hr_31 : nI (q_rd T n ss t (q_it (q_rd T n ss t) k ow)) = r_31 := (show r_31 = nI (q_rd T n ss t (q_it (q_rd T n ss t) k ow)) from hr_31).symm
        subst hr_31
        refine lv_istore_n (lv' := [(3, .int (nI (q_rd T n ss t (q_it (q_rd T n ss t) k ow)))), (0, .ref ma), (1, .int (nI q)), (2, .int (bI t)), (4, .int (nI k))]) hx hb dX10_behind_34 rfl hl (by decide) rfl (fun ls hl => ?_)
        refine lv_iinc (v := nI (k + 1)) (lv' := [(4, .int (nI (k + 1))), (3, .int (nI (q_rd T n ss t (q_it (q_rd T n ss t) k ow)))), (0, .ref ma), (1, .int (nI q)), (2, .int (bI t))]) hx hb dX10_behind_35 hl (k := 4) rfl (nI_add _ 1) (by decide) rfl (fun ls hl => ?_)
        refine lv_goto (tgt := 22) hx hb dX10_behind_38 (by decide) ?_
        exact ih22 (k + 1) q (by first | assumption | exact Nat.zero_le _ | omega) (hq9) (by omega) ls (lv_sub hl [2, 3, 4, 1, 0] rfl)
  rcases hw : q_ix (61) w with _ | q
  · refine lv_iload_n hx hb dX10_behind_0 rfl (lv_at hl 1 rfl) ?_
    refine lv_i2l (v := w.toInt64) hx hb dX10_behind_1 (rfl) ?_
    refine lv_lconst (v := (0 : Int64)) hx hb dX10_behind_2 (by decide) ?_
    refine lv_ldc2 (v := (60 : Int64)) hx hb hown (hts (.constantLong RX10 160 (60)) (by decide +kernel)) dX10_behind_3 ?_
    refine q_si (As := [.long w.toInt64, .long (0 : Int64), .long (60 : Int64)]) (rest := []) ⟨hx, hb, hml, hown, hts⟩ (c_X10_in l (D := D) (cI := cI) (cB := cB) (cZ := cZ) (a1 := w.toInt64) (b1 := (0 : Int64)) (c1 := (60 : Int64)) ) (va_cwS 3 hts gX10_behind_X10_in rfl rfl rfl (by decide +kernel) ⟨Nat.le_of_ble_eq_true rfl, Nat.le_of_ble_eq_true rfl⟩) hK hP [] rfl rfl hl.1 rfl (Nat.le_of_ble_eq_true rfl) dX10_behind_6 ⟨Nat.zero_le _, Nat.zero_le _⟩ (fun r_6 hr_6 => ?_)
    have hr_6 : bI false = r_6 := (Eq.trans (show r_6 = bI (q_inb w.toInt64 (0 : Int64) (60 : Int64)) from hr_6) (q_in0 (lo := 0) (hi := 60) (N := 61) rfl (rfl) (by omega) hw (by omega))).symm
    subst hr_6
    refine q_bne (tgt := 14) hx hb dX10_behind_9 (by decide) (fun c_9 => ?_) (fun c_9 => ?_)
    · exact absurd c_9 (by decide)
    · refine lv_iconst (v := (-1 : Int32)) hx hb dX10_behind_12 (by decide) ?_
      exact q_zret (v := (-1 : Int32)) hx hb hr hlocks (rfl) (show (-1 : Int32) = A_behind T n ss ow w t from by simp only [A_behind, hw]) dX10_behind_13
  · have hwe := q_ixS hw
    have hl : lv_has ls 5 [(0, .ref ma), (1, .int (nI q)), (2, .int (bI t))] := by rw [← show w = nI q from hwe.1]; exact hl
    refine lv_iload_n hx hb dX10_behind_0 rfl (lv_at hl 1 rfl) ?_
    refine lv_i2l (v := (nI q).toInt64) hx hb dX10_behind_1 (rfl) ?_
    refine lv_lconst (v := (0 : Int64)) hx hb dX10_behind_2 (by decide) ?_
    refine lv_ldc2 (v := (60 : Int64)) hx hb hown (hts (.constantLong RX10 160 (60)) (by decide +kernel)) dX10_behind_3 ?_
    refine q_si (As := [.long ((nI q).toInt64), .long (0 : Int64), .long (60 : Int64)]) (rest := []) ⟨hx, hb, hml, hown, hts⟩ (c_X10_in l (D := D) (cI := cI) (cB := cB) (cZ := cZ) (a1 := (nI q).toInt64) (b1 := (0 : Int64)) (c1 := (60 : Int64)) ) (va_cwS 3 hts gX10_behind_X10_in rfl rfl rfl (by decide +kernel) ⟨Nat.le_of_ble_eq_true rfl, Nat.le_of_ble_eq_true rfl⟩) hK hP [] rfl rfl hl.1 rfl (Nat.le_of_ble_eq_true rfl) dX10_behind_6 ⟨Nat.zero_le _, Nat.zero_le _⟩ (fun r_6 hr_6 => ?_)
    have hr_6 : bI true = r_6 := (Eq.trans (show r_6 = bI (q_inb ((nI q).toInt64) (0 : Int64) (60 : Int64)) from hr_6) (q_in1 (lo := 0) (hi := 60) rfl (rfl) (by omega) (by omega) (by omega))).symm
    subst hr_6
    refine q_bne (tgt := 14) hx hb dX10_behind_9 (by decide) (fun c_9 => ?_) (fun c_9 => ?_)
    · refine lv_aload_n hx hb dX10_behind_14 rfl (lv_at hl 0 rfl) ?_
      refine q_get (ci := 10) (CC := RX10) (T := TX10) (N := 24) (v := .int (nI ow)) hx hb hts hin10 hown hK hP 0 rfl rfl 8 (by decide) (hts (.fieldLink RX10 107 "DearAsManyModel" "owners" "I") (by decide +kernel)) rfl rfl dX10_behind_15 ?_
      refine lv_istore_n (lv' := [(3, .int (nI ow)), (0, .ref ma), (1, .int (nI q)), (2, .int (bI t))]) hx hb dX10_behind_18 rfl hl (by decide) rfl (fun ls hl => ?_)
      refine lv_iconst (v := nI 0) hx hb dX10_behind_19 (by decide) ?_
      refine lv_istore (lv' := [(4, .int (nI 0)), (3, .int (nI ow)), (0, .ref ma), (1, .int (nI q)), (2, .int (bI t))]) hx hb dX10_behind_20 hl (by decide) rfl (fun ls hl => ?_)
      exact L22 _ 0 q (Nat.zero_le _) (⟨hw, by omega⟩) (Nat.lt_succ_self _) ls (lv_sub hl [2, 3, 4, 1, 0] rfl)
    · exact absurd c_9 (by decide)

set_option maxHeartbeats 4000000 in
set_option maxRecDepth 100000 in
theorem c_X10_rest (l : Launch) {D : va_G} {cI cB cZ : ClassId} {ma : Nat} {mt : Nat} {mk : Nat} {mw : Nat} {mc : Nat} {mh : Nat} {mp : Nat} {mb : Nat} {me : Nat} {wp0 : Nat} {wo0 : Nat} {wb0 : Nat} {mr : Nat} {ml : Nat} {tn : Nat} {n : Nat} {ow : Nat} {uc : Nat} {kc : Nat} {sc : Nat} {ss : Int32} {at0 : Int32} {rm0 : Int32} {ro0 : Int32} {rs0 : Int32} {mK : Nat → Int32} {mW : Nat → Int32} {mC : Nat → Int32} {mH : Nat → Int32} {T : Nat → Nat → Nat} {w : Int32} {t : Bool} {mL : Nat → Int32} {zz : Nat} (hMT : q_MT T n mK mW mC mH) (hB : q_Bd T n) (hn1 : 1 ≤ n) (how : ow < 2 ^ n) : Met l yX10_rest wsX10_rest ({ frames := 7, cells := 0, slots := 0, locals := 159 } : Room) (va_Pc [.ref ma, .int (bI t), .int w] (q_M D (q_tys cI cB cZ) [(ma, .inr (10, [.ref mt, .int (nI tn), .int (nI n), .ref mk, .ref mw, .ref mc, .ref mh, .ref mp, .int (nI ow), .int ss, .int (nI uc), .ref mb, .int (nI kc), .ref me, .int (nI sc), .ref wp0, .ref wo0, .ref wb0, .int at0, .int rm0, .int ro0, .int rs0, .ref mr, .ref ml])), (mk, .inl (cI, 7, .inl mK)), (mw, .inl (cI, 7, .inl mW)), (mc, .inl (cI, 7, .inl mC)), (mh, .inl (cI, 7, .inl mH)), (ml, .inl (cI, 128, .inl mL))] zz)) (va_Qi (S := (Nat → Int32)) (fun r u => r = A_rest T n ss ow t w ∧ True) (fun u t => va_P D vwCl ((fun u => [(ma, .inr (10, [.ref mt, .int (nI tn), .int (nI n), .ref mk, .ref mw, .ref mc, .ref mh, .ref mp, .int (nI ow), .int ss, .int (nI uc), .ref mb, .int (nI kc), .ref me, .int (nI sc), .ref wp0, .ref wo0, .ref wb0, .int at0, .int rm0, .int ro0, .int rs0, .ref mr, .ref ml])), (mk, .inl (cI, 7, .inl mK)), (mw, .inl (cI, 7, .inl mW)), (mc, .inl (cI, 7, .inl mC)), (mh, .inl (cI, 7, .inl mH)), (ml, .inl (cI, 128, .inl u))]) u) t.heap) (va_A [(ma, .inr (10, [.ref mt, .int (nI tn), .int (nI n), .ref mk, .ref mw, .ref mc, .ref mh, .ref mp, .int (nI ow), .int ss, .int (nI uc), .ref mb, .int (nI kc), .ref me, .int (nI sc), .ref wp0, .ref wo0, .ref wb0, .int at0, .int rm0, .int ro0, .int rs0, .ref mr, .ref ml])), (mk, .inl (cI, 7, .inl mK)), (mw, .inl (cI, 7, .inl mW)), (mc, .inl (cI, 7, .inl mC)), (mh, .inl (cI, 7, .inl mH)), (ml, .inl (cI, 128, .inl mL))] zz)) 0 0 (va_A [(ma, .inr (10, [.ref mt, .int (nI tn), .int (nI n), .ref mk, .ref mw, .ref mc, .ref mh, .ref mp, .int (nI ow), .int ss, .int (nI uc), .ref mb, .int (nI kc), .ref me, .int (nI sc), .ref wp0, .ref wo0, .ref wb0, .int at0, .int rm0, .int ro0, .int rs0, .ref mr, .ref ml])), (mk, .inl (cI, 7, .inl mK)), (mw, .inl (cI, 7, .inl mW)), (mc, .inl (cI, 7, .inl mC)), (mh, .inl (cI, 7, .inl mH)), (ml, .inl (cI, 128, .inl mL))] zz) := by
  refine Met.ofW (cc := cX10_rest) (maxL := 7) (ret := (some .int)) (by decide) rfl ?_
  intro p e s m args below meth c s₁ B hml hv
  obtain ⟨rfl, hsz, hP, hK, hD0⟩ := hv
  have hx := B.exec
  have hb := B.bytes
  have hr := B.returns
  have hts := atoms_spec (ws := wsX10_rest) B.pre
  have hown : s.vm.findClass RX10 = some m.cls := findClass_of_methodNamed B.named
  have hlocks := B.notSynchronized
  have hin10 : ∀ w ∈ u_ws RX10 TX10 24, w ∈ wsX10_rest := by decide +kernel
  subst hsz
  have hD := hD0.self (sz := s.heap.size)
  generalize hAe : va_A [(ma, .inr (10, [.ref mt, .int (nI tn), .int (nI n), .ref mk, .ref mw, .ref mc, .ref mh, .ref mp, .int (nI ow), .int ss, .int (nI uc), .ref mb, .int (nI kc), .ref me, .int (nI sc), .ref wp0, .ref wo0, .ref wb0, .int at0, .int rm0, .int ro0, .int rs0, .ref mr, .ref ml])), (mk, .inl (cI, 7, .inl mK)), (mw, .inl (cI, 7, .inl mW)), (mc, .inl (cI, 7, .inl mC)), (mh, .inl (cI, 7, .inl mH)), (ml, .inl (cI, 128, .inl mL))] s.heap.size = A at hD ⊢
  have hA : ∀ q : Nat, s.heap.size ≤ q → A q := fun q h => by rw [← hAe]; exact Or.inr h
  have hS : va_S A s.heap s.heap [] := va_S.rf
  have hP : va_P D vwCl [(ma, .inr (10, [.ref mt, .int (nI tn), .int (nI n), .ref mk, .ref mw, .ref mc, .ref mh, .ref mp, .int (nI ow), .int ss, .int (nI uc), .ref mb, .int (nI kc), .ref me, .int (nI sc), .ref wp0, .ref wo0, .ref wb0, .int at0, .int rm0, .int ro0, .int rs0, .ref mr, .ref ml])), (mk, .inl (cI, 7, .inl mK)), (mw, .inl (cI, 7, .inl mW)), (mc, .inl (cI, 7, .inl mC)), (mh, .inl (cI, 7, .inl mH)), (ml, .inl (cI, 128, .inl mL))] s.heap := hP
  have hl := lv_entry ([.ref ma, .int (bI t), .int w]) (n := 7) (Nat.le_of_ble_eq_true rfl)
  rw [lg_entry_eq]
  generalize (lg_sl ([.ref ma, .int (bI t), .int w]) ++ List.replicate (7 - (lg_sl ([.ref ma, .int (bI t), .int w])).length) Slot.unset).toArray = ls at hl ⊢
  have hl : lv_has ls 7 [(0, .ref ma), (1, .int (bI t)), (2, .int w)] := hl
  have hn7 := hB.1
  have hp2 : 2 ^ n ≤ 128 := q_p2 hB.1
  have ho128 := q_S128 hB how
  have L89 : ∀ (fuel : Nat) (y : Nat) (cn : Nat) (jj : Nat) (x : Nat) (g : Nat → Int32) (hg : ∀ S, S < 2 ^ n → g S = nI (q_rd T n ss t S)) (hxx : q_it (q_rd T n ss t) 128 ow = x) (hxl : x < 2 ^ n) (hyl : y < 2 ^ n) (hy : y = q_it (q_rd T n ss t) cn x) (hjc : jj + cn = 128 ∧ 1 ≤ cn) (hno2 : ∀ k, 1 ≤ k → k < cn → ¬ q_it (q_rd T n ss t) k x = x) (hE2 : q_sg (q_rd T n ss t) ow = q_sw (q_rd T n ss t) x jj y cn) (hw1 : w = nI 1) (hf : jj < fuel) (H : Heap) (locs : List Loc) (hP : va_P D vwCl [(ma, .inr (10, [.ref mt, .int (nI tn), .int (nI n), .ref mk, .ref mw, .ref mc, .ref mh, .ref mp, .int (nI ow), .int ss, .int (nI uc), .ref mb, .int (nI kc), .ref me, .int (nI sc), .ref wp0, .ref wo0, .ref wb0, .int at0, .int rm0, .int ro0, .int rs0, .ref mr, .ref ml])), (mk, .inl (cI, 7, .inl mK)), (mw, .inl (cI, 7, .inl mW)), (mc, .inl (cI, 7, .inl mC)), (mh, .inl (cI, 7, .inl mH)), (ml, .inl (cI, 128, .inl g))] H) (hD : va_D A [(ma, .inr (10, [.ref mt, .int (nI tn), .int (nI n), .ref mk, .ref mw, .ref mc, .ref mh, .ref mp, .int (nI ow), .int ss, .int (nI uc), .ref mb, .int (nI kc), .ref me, .int (nI sc), .ref wp0, .ref wo0, .ref wb0, .int at0, .int rm0, .int ro0, .int rs0, .ref mr, .ref ml])), (mk, .inl (cI, 7, .inl mK)), (mw, .inl (cI, 7, .inl mW)), (mc, .inl (cI, 7, .inl mC)), (mh, .inl (cI, 7, .inl mH)), (ml, .inl (cI, 128, .inl g))]) (hS : va_S A s.heap H locs) (ls : Array Slot) (hl : lv_has ls 7 [(0, .ref ma), (3, .int (nI x)), (5, .int (nI cn)), (6, .int (nI y))]), W p l e (headSpec wsX10_rest ({ frames := 7, cells := 0, slots := 0, locals := 159 } : Room)).room s m ([.ref ma, .int (bI t), .int w] : List Value).toArray below meth c H locs 0 0 (MQ below (va_Qi (S := (Nat → Int32)) (fun r u => r = A_rest T n ss ow t w ∧ True) (fun u t => va_P D vwCl ((fun u => [(ma, .inr (10, [.ref mt, .int (nI tn), .int (nI n), .ref mk, .ref mw, .ref mc, .ref mh, .ref mp, .int (nI ow), .int ss, .int (nI uc), .ref mb, .int (nI kc), .ref me, .int (nI sc), .ref wp0, .ref wo0, .ref wb0, .int at0, .int rm0, .int ro0, .int rs0, .ref mr, .ref ml])), (mk, .inl (cI, 7, .inl mK)), (mw, .inl (cI, 7, .inl mW)), (mc, .inl (cI, 7, .inl mC)), (mh, .inl (cI, 7, .inl mH)), (ml, .inl (cI, 128, .inl u))]) u) t.heap) A) ([.ref ma, .int (bI t), .int w] : List Value).toArray s 0 0 A) (F0 m 89 ls []) := by
    intro fuel
    induction fuel with
    | zero =>
      intro y cn jj x g hg hxx hxl hyl hy hjc hno2 hE2 hw1 hf H locs hP hD hS ls hl
      exact absurd hf (Nat.not_lt_zero _)
    | succ fuel ih89 =>
      intro y cn jj x g hg hxx hxl hyl hy hjc hno2 hE2 hw1 hf H locs hP hD hS ls hl
      refine lv_iload hx hb dX10_rest_89 (lv_at hl 3 rfl) ?_
      refine lv_iload_n hx hb dX10_rest_91 rfl (lv_at hl 1 rfl) ?_
      refine q_neq (tgt := 110) hx hb dX10_rest_92 (by decide) (by omega) (by omega) (fun c_92 => ?_) (fun c_92 => ?_)
      · refine lv_iload hx hb dX10_rest_110 (lv_at hl 2 rfl) ?_
        exact q_mret (S := (Nat → Int32)) (v := nI cn) (w1 := fun u => [(ma, .inr (10, [.ref mt, .int (nI tn), .int (nI n), .ref mk, .ref mw, .ref mc, .ref mh, .ref mp, .int (nI ow), .int ss, .int (nI uc), .ref mb, .int (nI kc), .ref me, .int (nI sc), .ref wp0, .ref wo0, .ref wb0, .int at0, .int rm0, .int ro0, .int rs0, .ref mr, .ref ml])), (mk, .inl (cI, 7, .inl mK)), (mw, .inl (cI, 7, .inl mW)), (mc, .inl (cI, 7, .inl mC)), (mh, .inl (cI, 7, .inl mH)), (ml, .inl (cI, 128, .inl u))]) g hx hb hr hlocks (rfl) hP hS dX10_rest_112 (by exact ⟨by rw [A_rest, if_neg (by rw [hw1]; decide), if_pos hw1, hE2, c_92]; exact congrArg nI (q_sw_eq _ _ _ _).symm, trivial⟩)
      · have hjp := q_jj (fun x hx => q_rd_lt hx) hp2 how hxx hy hjc hno2 c_92
        obtain ⟨jk, rfl⟩ : ∃ jk, jj = jk + 1 := ⟨jj - 1, by omega⟩
        refine lv_iinc (v := nI (cn + 1)) (lv' := [(5, .int (nI (cn + 1))), (0, .ref ma), (3, .int (nI x)), (6, .int (nI y))]) hx hb dX10_rest_95 hl (k := 2) rfl (nI_add _ 1) (by decide) rfl (fun ls hl => ?_)
        refine lv_aload_n hx hb dX10_rest_98 rfl (lv_at hl 1 rfl) ?_
        refine q_get (ci := 10) (CC := RX10) (T := TX10) (N := 24) (v := .ref ml) hx hb hts hin10 hown hK hP 0 rfl rfl 23 (by decide) (hts (.fieldLink RX10 54 "DearAsManyModel" "leads" "[I") (by decide +kernel)) rfl rfl dX10_rest_99 ?_
        refine lv_iload hx hb dX10_rest_102 (lv_at hl 3 rfl) ?_
        refine q_aldv (v := nI (q_rd T n ss t y)) hx hb hK hP 5 0 rfl rfl (by omega) (by decide) dX10_rest_104 (hg y hyl) ?_
        refine lv_istore (lv' := [(6, .int (nI (q_rd T n ss t y))), (5, .int (nI (cn + 1))), (0, .ref ma), (3, .int (nI x))]) hx hb dX10_rest_105 hl (by decide) rfl (fun ls hl => ?_)
        refine lv_goto (tgt := 89) hx hb dX10_rest_107 (by decide) ?_
        exact ih89 (q_rd T n ss t y) (cn + 1) jk x g (hg) (hxx) (hxl) (q_rd_lt hyl) (by rw [hy]; rfl) (⟨by omega, by omega⟩) (fun k h1 h2 => by by_cases e9 : k = cn; exact (by rw [e9, ← hy]; exact c_92); exact hno2 k h1 (by omega)) (by rw [hE2, q_sw, if_neg c_92]) (hw1) (by omega) _ _ hP hD hS ls (lv_sub hl [2, 3, 1, 0] rfl)
  have L25 : ∀ (fuel : Nat) (j : Nat) (x : Nat) (r : Nat) (g : Nat → Int32) (hv : q_eit w = true) (hg : ∀ S, S < 2 ^ n → g S = nI (q_rd T n ss t S)) (hxl : x < 2 ^ n) (hj : j + r = 128) (hx9 : x = q_it (q_rd T n ss t) r ow) (hE : q_rr (q_rd T n ss t) 128 0 ow = q_rr (q_rd T n ss t) j r x) (hno : ∀ k, k < r → ¬ q_rd T n ss t (q_it (q_rd T n ss t) k ow) = q_it (q_rd T n ss t) k ow) (hf : j < fuel) (H : Heap) (locs : List Loc) (hP : va_P D vwCl [(ma, .inr (10, [.ref mt, .int (nI tn), .int (nI n), .ref mk, .ref mw, .ref mc, .ref mh, .ref mp, .int (nI ow), .int ss, .int (nI uc), .ref mb, .int (nI kc), .ref me, .int (nI sc), .ref wp0, .ref wo0, .ref wb0, .int at0, .int rm0, .int ro0, .int rs0, .ref mr, .ref ml])), (mk, .inl (cI, 7, .inl mK)), (mw, .inl (cI, 7, .inl mW)), (mc, .inl (cI, 7, .inl mC)), (mh, .inl (cI, 7, .inl mH)), (ml, .inl (cI, 128, .inl g))] H) (hD : va_D A [(ma, .inr (10, [.ref mt, .int (nI tn), .int (nI n), .ref mk, .ref mw, .ref mc, .ref mh, .ref mp, .int (nI ow), .int ss, .int (nI uc), .ref mb, .int (nI kc), .ref me, .int (nI sc), .ref wp0, .ref wo0, .ref wb0, .int at0, .int rm0, .int ro0, .int rs0, .ref mr, .ref ml])), (mk, .inl (cI, 7, .inl mK)), (mw, .inl (cI, 7, .inl mW)), (mc, .inl (cI, 7, .inl mC)), (mh, .inl (cI, 7, .inl mH)), (ml, .inl (cI, 128, .inl g))]) (hS : va_S A s.heap H locs) (ls : Array Slot) (hl : lv_has ls 7 [(0, .ref ma), (1, .int (bI t)), (2, .int w), (3, .int (nI x)), (4, .int (nI r))]), W p l e (headSpec wsX10_rest ({ frames := 7, cells := 0, slots := 0, locals := 159 } : Room)).room s m ([.ref ma, .int (bI t), .int w] : List Value).toArray below meth c H locs 0 0 (MQ below (va_Qi (S := (Nat → Int32)) (fun r u => r = A_rest T n ss ow t w ∧ True) (fun u t => va_P D vwCl ((fun u => [(ma, .inr (10, [.ref mt, .int (nI tn), .int (nI n), .ref mk, .ref mw, .ref mc, .ref mh, .ref mp, .int (nI ow), .int ss, .int (nI uc), .ref mb, .int (nI kc), .ref me, .int (nI sc), .ref wp0, .ref wo0, .ref wb0, .int at0, .int rm0, .int ro0, .int rs0, .ref mr, .ref ml])), (mk, .inl (cI, 7, .inl mK)), (mw, .inl (cI, 7, .inl mW)), (mc, .inl (cI, 7, .inl mC)), (mh, .inl (cI, 7, .inl mH)), (ml, .inl (cI, 128, .inl u))]) u) t.heap) A) ([.ref ma, .int (bI t), .int w] : List Value).toArray s 0 0 A) (F0 m 25 ls []) := by
    intro fuel
    induction fuel with
    | zero =>
      intro j x r g hv hg hxl hj hx9 hE hno hf H locs hP hD hS ls hl
      exact absurd hf (Nat.not_lt_zero _)
    | succ fuel ih25 =>
      intro j x r g hv hg hxl hj hx9 hE hno hf H locs hP hD hS ls hl
      refine lv_aload_n hx hb dX10_rest_25 rfl (lv_at hl 0 rfl) ?_
      refine q_get (ci := 10) (CC := RX10) (T := TX10) (N := 24) (v := .ref ml) hx hb hts hin10 hown hK hP 0 rfl rfl 23 (by decide) (hts (.fieldLink RX10 54 "DearAsManyModel" "leads" "[I") (by decide +kernel)) rfl rfl dX10_rest_26 ?_
      refine lv_iload_n hx hb dX10_rest_29 rfl (lv_at hl 3 rfl) ?_
      refine q_aldv (v := nI (q_rd T n ss t x)) hx hb hK hP 5 0 rfl rfl (by omega) (by decide) dX10_rest_30 (hg x hxl) ?_
      refine lv_iload_n hx hb dX10_rest_31 rfl (lv_at hl 3 rfl) ?_
      refine q_neq (tgt := 56) hx hb dX10_rest_32 (by decide) (by have := q_rd_lt (T := T) (se := ss) (t := t) hxl; omega) (by omega) (fun c_32 => ?_) (fun c_32 => ?_)
      · refine lv_iload_n hx hb dX10_rest_56 rfl (lv_at hl 2 rfl) ?_
        refine lv_if_ne (x := w) (tgt := 78) hx hb dX10_rest_57 (by decide) (fun c_57 => ?_) (fun c_57 => ?_)
        · refine lv_iconst (v := nI 1) hx hb dX10_rest_78 (by decide) ?_
          refine lv_istore (lv' := [(5, .int (nI 1)), (0, .ref ma), (1, .int (bI t)), (2, .int w), (3, .int (nI x)), (4, .int (nI r))]) hx hb dX10_rest_79 hl (by decide) rfl (fun ls hl => ?_)
          refine lv_aload_n hx hb dX10_rest_81 rfl (lv_at hl 1 rfl) ?_
          refine q_get (ci := 10) (CC := RX10) (T := TX10) (N := 24) (v := .ref ml) hx hb hts hin10 hown hK hP 0 rfl rfl 23 (by decide) (hts (.fieldLink RX10 54 "DearAsManyModel" "leads" "[I") (by decide +kernel)) rfl rfl dX10_rest_82 ?_
          refine lv_iload_n hx hb dX10_rest_85 rfl (lv_at hl 4 rfl) ?_
          refine q_aldv (v := nI (q_rd T n ss t x)) hx hb hK hP 5 0 rfl rfl (by omega) (by decide) dX10_rest_86 (hg x hxl) ?_
          refine lv_istore (lv' := [(6, .int (nI (q_rd T n ss t x))), (5, .int (nI 1)), (0, .ref ma), (1, .int (bI t)), (2, .int w), (3, .int (nI x)), (4, .int (nI r))]) hx hb dX10_rest_87 hl (by decide) rfl (fun ls hl => ?_)
          have hxq : q_it (q_rd T n ss t) 128 ow = x := q_fx hx9 (by omega) c_32
          exact L89 _ (q_rd T n ss t x) 1 127 x g (hg) (hxq) (hxl) (q_rd_lt hxl) (rfl) (⟨rfl, Nat.le_refl 1⟩) (fun k h1 h2 => absurd h1 (by omega)) (by rw [← hxq]; rfl) ((of_decide_eq_true hv).elim (fun z => absurd z c_57) id) (Nat.lt_succ_self _) _ _ hP hD hS ls (lv_sub hl [2, 5, 1, 0] rfl)
        · refine lv_aload_n hx hb dX10_rest_60 rfl (lv_at hl 0 rfl) ?_
          refine q_get (ci := 10) (CC := RX10) (T := TX10) (N := 24) (v := .ref ml) hx hb hts hin10 hown hK hP 0 rfl rfl 23 (by decide) (hts (.fieldLink RX10 54 "DearAsManyModel" "leads" "[I") (by decide +kernel)) rfl rfl dX10_rest_61 ?_
          refine lv_iload_n hx hb dX10_rest_64 rfl (lv_at hl 3 rfl) ?_
          refine q_aldv (v := nI (q_rd T n ss t x)) hx hb hK hP 5 0 rfl rfl (by omega) (by decide) dX10_rest_65 (hg x hxl) ?_
          refine lv_iload_n hx hb dX10_rest_66 rfl (lv_at hl 3 rfl) ?_
          refine q_nne (tgt := 75) hx hb dX10_rest_67 (by decide) (by have := q_rd_lt (T := T) (se := ss) (t := t) hxl; omega) (by omega) (fun c_67 => ?_) (fun c_67 => ?_)
          · exact absurd c_67 ((fun z => z c_32))
          · refine lv_iload hx hb dX10_rest_70 (lv_at hl 4 rfl) ?_
            refine lv_goto (tgt := 77) hx hb dX10_rest_72 (by decide) ?_
            exact q_mret (S := (Nat → Int32)) (v := nI r) (w1 := fun u => [(ma, .inr (10, [.ref mt, .int (nI tn), .int (nI n), .ref mk, .ref mw, .ref mc, .ref mh, .ref mp, .int (nI ow), .int ss, .int (nI uc), .ref mb, .int (nI kc), .ref me, .int (nI sc), .ref wp0, .ref wo0, .ref wb0, .int at0, .int rm0, .int ro0, .int rs0, .ref mr, .ref ml])), (mk, .inl (cI, 7, .inl mK)), (mw, .inl (cI, 7, .inl mW)), (mc, .inl (cI, 7, .inl mC)), (mh, .inl (cI, 7, .inl mH)), (ml, .inl (cI, 128, .inl u))]) g hx hb hr hlocks (rfl) hP hS dX10_rest_77 (by exact ⟨by rw [A_rest, if_pos (show w = nI 0 from c_57), hE]; exact (q_rrT (fun x hx => q_rd_lt hx) hp2 how hx9 hj hno c_32).symm, trivial⟩)
      · refine lv_iload hx hb dX10_rest_35 (lv_at hl 4 rfl) ?_
        refine lv_sipush (v := nI 128) hx hb dX10_rest_37 (by decide) ?_
        refine q_nge (tgt := 56) hx hb dX10_rest_40 (by decide) (by omega) (by omega) (fun c_40 => ?_) (fun c_40 => ?_)
        · refine lv_iload_n hx hb dX10_rest_56 rfl (lv_at hl 2 rfl) ?_
          refine lv_if_ne (x := w) (tgt := 78) hx hb dX10_rest_57 (by decide) (fun c_57 => ?_) (fun c_57 => ?_)
          · refine lv_iconst (v := nI 1) hx hb dX10_rest_78 (by decide) ?_
            refine lv_istore (lv' := [(5, .int (nI 1)), (0, .ref ma), (1, .int (bI t)), (2, .int w), (3, .int (nI x)), (4, .int (nI r))]) hx hb dX10_rest_79 hl (by decide) rfl (fun ls hl => ?_)
            refine lv_aload_n hx hb dX10_rest_81 rfl (lv_at hl 1 rfl) ?_
            refine q_get (ci := 10) (CC := RX10) (T := TX10) (N := 24) (v := .ref ml) hx hb hts hin10 hown hK hP 0 rfl rfl 23 (by decide) (hts (.fieldLink RX10 54 "DearAsManyModel" "leads" "[I") (by decide +kernel)) rfl rfl dX10_rest_82 ?_
            refine lv_iload_n hx hb dX10_rest_85 rfl (lv_at hl 4 rfl) ?_
            refine q_aldv (v := nI (q_rd T n ss t x)) hx hb hK hP 5 0 rfl rfl (by omega) (by decide) dX10_rest_86 (hg x hxl) ?_
            refine lv_istore (lv' := [(6, .int (nI (q_rd T n ss t x))), (5, .int (nI 1)), (0, .ref ma), (1, .int (bI t)), (2, .int w), (3, .int (nI x)), (4, .int (nI r))]) hx hb dX10_rest_87 hl (by decide) rfl (fun ls hl => ?_)
            have hxq : q_it (q_rd T n ss t) 128 ow = x := by rw [hx9, show r = 128 from by omega]
            exact L89 _ (q_rd T n ss t x) 1 127 x g (hg) (hxq) (hxl) (q_rd_lt hxl) (rfl) (⟨rfl, Nat.le_refl 1⟩) (fun k h1 h2 => absurd h1 (by omega)) (by rw [← hxq]; rfl) ((of_decide_eq_true hv).elim (fun z => absurd z c_57) id) (Nat.lt_succ_self _) _ _ hP hD hS ls (lv_sub hl [2, 5, 1, 0] rfl)
          · refine lv_aload_n hx hb dX10_rest_60 rfl (lv_at hl 0 rfl) ?_
            refine q_get (ci := 10) (CC := RX10) (T := TX10) (N := 24) (v := .ref ml) hx hb hts hin10 hown hK hP 0 rfl rfl 23 (by decide) (hts (.fieldLink RX10 54 "DearAsManyModel" "leads" "[I") (by decide +kernel)) rfl rfl dX10_rest_61 ?_
            refine lv_iload_n hx hb dX10_rest_64 rfl (lv_at hl 3 rfl) ?_
            refine q_aldv (v := nI (q_rd T n ss t x)) hx hb hK hP 5 0 rfl rfl (by omega) (by decide) dX10_rest_65 (hg x hxl) ?_
            refine lv_iload_n hx hb dX10_rest_66 rfl (lv_at hl 3 rfl) ?_
            refine q_nne (tgt := 75) hx hb dX10_rest_67 (by decide) (by have := q_rd_lt (T := T) (se := ss) (t := t) hxl; omega) (by omega) (fun c_67 => ?_) (fun c_67 => ?_)
            · refine lv_bipush (v := (-4 : Int32)) hx hb dX10_rest_75 (by decide) ?_
              exact q_mret (S := (Nat → Int32)) (v := (-4 : Int32)) (w1 := fun u => [(ma, .inr (10, [.ref mt, .int (nI tn), .int (nI n), .ref mk, .ref mw, .ref mc, .ref mh, .ref mp, .int (nI ow), .int ss, .int (nI uc), .ref mb, .int (nI kc), .ref me, .int (nI sc), .ref wp0, .ref wo0, .ref wb0, .int at0, .int rm0, .int ro0, .int rs0, .ref mr, .ref ml])), (mk, .inl (cI, 7, .inl mK)), (mw, .inl (cI, 7, .inl mW)), (mc, .inl (cI, 7, .inl mC)), (mh, .inl (cI, 7, .inl mH)), (ml, .inl (cI, 128, .inl u))]) g hx hb hr hlocks (rfl) hP hS dX10_rest_77 (by exact ⟨by rw [A_rest, if_pos (show w = nI 0 from c_57), hE, show j = 0 from by omega]; rfl, trivial⟩)
            · exact absurd c_67 (c_32)
        · obtain ⟨jj, rfl⟩ : ∃ jj, j = jj + 1 := ⟨j - 1, by omega⟩
          refine lv_aload_n hx hb dX10_rest_43 rfl (lv_at hl 0 rfl) ?_
          refine q_get (ci := 10) (CC := RX10) (T := TX10) (N := 24) (v := .ref ml) hx hb hts hin10 hown hK hP 0 rfl rfl 23 (by decide) (hts (.fieldLink RX10 54 "DearAsManyModel" "leads" "[I") (by decide +kernel)) rfl rfl dX10_rest_44 ?_
          refine lv_iload_n hx hb dX10_rest_47 rfl (lv_at hl 3 rfl) ?_
          refine q_aldv (v := nI (q_rd T n ss t x)) hx hb hK hP 5 0 rfl rfl (by omega) (by decide) dX10_rest_48 (hg x hxl) ?_
          refine lv_istore_n (lv' := [(3, .int (nI (q_rd T n ss t x))), (0, .ref ma), (1, .int (bI t)), (2, .int w), (4, .int (nI r))]) hx hb dX10_rest_49 rfl hl (by decide) rfl (fun ls hl => ?_)
          refine lv_iinc (v := nI (r + 1)) (lv' := [(4, .int (nI (r + 1))), (3, .int (nI (q_rd T n ss t x))), (0, .ref ma), (1, .int (bI t)), (2, .int w)]) hx hb dX10_rest_50 hl (k := 4) rfl (nI_add _ 1) (by decide) rfl (fun ls hl => ?_)
          refine lv_goto (tgt := 25) hx hb dX10_rest_53 (by decide) ?_
          exact ih25 jj (q_rd T n ss t x) (r + 1) g (hv) (hg) (q_rd_lt hxl) (by omega) (by rw [hx9]; rfl) (by rw [hE, q_rr, if_neg c_32]) (fun k hk => by by_cases e9 : k = r; exact (by rw [e9, ← hx9]; exact c_32); exact hno k (by omega)) (by omega) _ _ hP hD hS ls (lv_sub hl [2, 3, 4, 1, 0] rfl)
  refine lv_iload_n hx hb dX10_rest_0 rfl (lv_at hl 2 rfl) ?_
  refine lv_i2l (v := w.toInt64) hx hb dX10_rest_1 (rfl) ?_
  refine lv_lconst (v := (0 : Int64)) hx hb dX10_rest_2 (by decide) ?_
  refine lv_lconst (v := (1 : Int64)) hx hb dX10_rest_3 (by decide) ?_
  refine q_si (As := [.long w.toInt64, .long (0 : Int64), .long (1 : Int64)]) (rest := []) ⟨hx, hb, hml, hown, hts⟩ (c_X10_in l (D := D) (cI := cI) (cB := cB) (cZ := cZ) (a1 := w.toInt64) (b1 := (0 : Int64)) (c1 := (1 : Int64)) ) (va_cwS 3 hts gX10_rest_X10_in rfl rfl rfl (by decide +kernel) ⟨Nat.le_of_ble_eq_true rfl, Nat.le_of_ble_eq_true rfl⟩) hK hP [] rfl rfl hl.1 rfl (Nat.le_of_ble_eq_true rfl) dX10_rest_4 ⟨Nat.zero_le _, Nat.zero_le _⟩ (fun r_4 hr_4 => ?_)
  have hr_4 : bI (q_eit w) = r_4 := (Eq.trans (show r_4 = bI (q_inb w.toInt64 (0 : Int64) (1 : Int64)) from hr_4) (q_inEit _)).symm
  subst hr_4
  refine q_bne (tgt := 12) hx hb dX10_rest_7 (by decide) (fun c_7 => ?_) (fun c_7 => ?_)
  · refine lv_aload_n hx hb dX10_rest_12 rfl (lv_at hl 0 rfl) ?_
    refine lv_iload_n hx hb dX10_rest_13 rfl (lv_at hl 1 rfl) ?_
    refine q_vmv (S := (Nat → Int32)) (w1 := fun u => [(ma, .inr (10, [.ref mt, .int (nI tn), .int (nI n), .ref mk, .ref mw, .ref mc, .ref mh, .ref mp, .int (nI ow), .int ss, .int (nI uc), .ref mb, .int (nI kc), .ref me, .int (nI sc), .ref wp0, .ref wo0, .ref wb0, .int at0, .int rm0, .int ro0, .int rs0, .ref mr, .ref ml])), (mk, .inl (cI, 7, .inl mK)), (mw, .inl (cI, 7, .inl mW)), (mc, .inl (cI, 7, .inl mC)), (mh, .inl (cI, 7, .inl mH)), (ml, .inl (cI, 128, .inl u))]) (w2 := fun u => [(ma, .inr (10, [.ref mt, .int (nI tn), .int (nI n), .ref mk, .ref mw, .ref mc, .ref mh, .ref mp, .int (nI ow), .int ss, .int (nI uc), .ref mb, .int (nI kc), .ref me, .int (nI sc), .ref wp0, .ref wo0, .ref wb0, .int at0, .int rm0, .int ro0, .int rs0, .ref mr, .ref ml])), (mk, .inl (cI, 7, .inl mK)), (mw, .inl (cI, 7, .inl mW)), (mc, .inl (cI, 7, .inl mC)), (mh, .inl (cI, 7, .inl mH)), (ml, .inl (cI, 128, .inl u))]) (As := [.int (bI t)]) (rest := []) ⟨hx, hb, hml, hown, hts⟩ (c_X10_tells l (D := D) (cI := cI) (cB := cB) (cZ := cZ) (ma := ma) (mt := mt) (mk := mk) (mw := mw) (mc := mc) (mh := mh) (mp := mp) (mb := mb) (me := me) (wp0 := wp0) (wo0 := wo0) (wb0 := wb0) (mr := mr) (ml := ml) (tn := tn) (n := n) (ow := ow) (uc := uc) (kc := kc) (sc := sc) (ss := ss) (at0 := at0) (rm0 := rm0) (ro0 := ro0) (rs0 := rs0) (mK := mK) (mW := mW) (mC := mC) (mH := mH) (T := T) (t := t) (mL := mL) (by first | assumption | exact Nat.zero_le _ | omega) (by first | assumption | exact Nat.zero_le _ | omega) (by first | assumption | exact Nat.zero_le _ | omega)) (cwV 1 hts gX10_rest_X10_tells rfl rfl rfl (by decide +kernel) ⟨Nat.le_of_ble_eq_true rfl, Nat.le_of_ble_eq_true rfl⟩) hK hP hD hS hA [0, 1, 2, 3, 4, 5] rfl (by decide) 0 10 rfl rfl rfl rfl hl.1 rfl (Nat.le_of_ble_eq_true rfl) dX10_rest_14 ⟨Nat.zero_le _, Nat.zero_le _⟩ (fun _ => rfl) (fun _ => rfl) (fun _ => rfl) (fun w1 H locs hr_14 hP hD hS => ?_)
    have hP : va_P D vwCl [(ma, .inr (10, [.ref mt, .int (nI tn), .int (nI n), .ref mk, .ref mw, .ref mc, .ref mh, .ref mp, .int (nI ow), .int ss, .int (nI uc), .ref mb, .int (nI kc), .ref me, .int (nI sc), .ref wp0, .ref wo0, .ref wb0, .int at0, .int rm0, .int ro0, .int rs0, .ref mr, .ref ml])), (mk, .inl (cI, 7, .inl mK)), (mw, .inl (cI, 7, .inl mW)), (mc, .inl (cI, 7, .inl mC)), (mh, .inl (cI, 7, .inl mH)), (ml, .inl (cI, 128, .inl w1))] H := hP
    have hD : va_D A [(ma, .inr (10, [.ref mt, .int (nI tn), .int (nI n), .ref mk, .ref mw, .ref mc, .ref mh, .ref mp, .int (nI ow), .int ss, .int (nI uc), .ref mb, .int (nI kc), .ref me, .int (nI sc), .ref wp0, .ref wo0, .ref wb0, .int at0, .int rm0, .int ro0, .int rs0, .ref mr, .ref ml])), (mk, .inl (cI, 7, .inl mK)), (mw, .inl (cI, 7, .inl mW)), (mc, .inl (cI, 7, .inl mC)), (mh, .inl (cI, 7, .inl mH)), (ml, .inl (cI, 128, .inl w1))] := hD
    try dsimp only at hr_14
    refine lv_aload_n hx hb dX10_rest_17 rfl (lv_at hl 0 rfl) ?_
    refine q_get (ci := 10) (CC := RX10) (T := TX10) (N := 24) (v := .int (nI ow)) hx hb hts hin10 hown hK hP 0 rfl rfl 8 (by decide) (hts (.fieldLink RX10 107 "DearAsManyModel" "owners" "I") (by decide +kernel)) rfl rfl dX10_rest_18 ?_
    refine lv_istore_n (lv' := [(3, .int (nI ow)), (0, .ref ma), (1, .int (bI t)), (2, .int w)]) hx hb dX10_rest_21 rfl hl (by decide) rfl (fun ls hl => ?_)
    refine lv_iconst (v := nI 0) hx hb dX10_rest_22 (by decide) ?_
    refine lv_istore (lv' := [(4, .int (nI 0)), (3, .int (nI ow)), (0, .ref ma), (1, .int (bI t)), (2, .int w)]) hx hb dX10_rest_23 hl (by decide) rfl (fun ls hl => ?_)
    exact L25 _ 128 ow 0 w1 (c_7) (hr_14) (how) (rfl) (rfl) (rfl) (fun k hk => absurd hk (Nat.not_lt_zero _)) (Nat.lt_succ_self _) _ _ hP hD hS ls (lv_sub hl [2, 3, 4, 1, 0] rfl)
  · refine lv_iconst (v := (-1 : Int32)) hx hb dX10_rest_10 (by decide) ?_
    exact q_mret (S := (Nat → Int32)) (v := (-1 : Int32)) (w1 := fun u => [(ma, .inr (10, [.ref mt, .int (nI tn), .int (nI n), .ref mk, .ref mw, .ref mc, .ref mh, .ref mp, .int (nI ow), .int ss, .int (nI uc), .ref mb, .int (nI kc), .ref me, .int (nI sc), .ref wp0, .ref wo0, .ref wb0, .int at0, .int rm0, .int ro0, .int rs0, .ref mr, .ref ml])), (mk, .inl (cI, 7, .inl mK)), (mw, .inl (cI, 7, .inl mW)), (mc, .inl (cI, 7, .inl mC)), (mh, .inl (cI, 7, .inl mH)), (ml, .inl (cI, 128, .inl u))]) mL hx hb hr hlocks (rfl) hP hS dX10_rest_11 (by exact ⟨by rw [A_rest, if_neg (q_eitN c_7).1, if_neg (q_eitN c_7).2], trivial⟩)

set_option maxHeartbeats 4000000 in
set_option maxRecDepth 100000 in
theorem c_X10_rests (l : Launch) {D : va_G} {cI cB cZ : ClassId} {ma : Nat} {mt : Nat} {mk : Nat} {mw : Nat} {mc : Nat} {mh : Nat} {mp : Nat} {mb : Nat} {me : Nat} {wp0 : Nat} {wo0 : Nat} {wb0 : Nat} {mr : Nat} {ml : Nat} {tn : Nat} {n : Nat} {ow : Nat} {uc : Nat} {kc : Nat} {sc : Nat} {ss : Int32} {at0 : Int32} {rm0 : Int32} {ro0 : Int32} {rs0 : Int32} {mK : Nat → Int32} {mW : Nat → Int32} {mC : Nat → Int32} {mH : Nat → Int32} {T : Nat → Nat → Nat} {w : Int32} {mL : Nat → Int32} {zz : Nat} (hMT : q_MT T n mK mW mC mH) (hB : q_Bd T n) (hn1 : 1 ≤ n) : Met l yX10_rests wsX10_rests ({ frames := 7, cells := 0, slots := 0, locals := 159 } : Room) (va_Pc [.ref ma, .int w] (q_M D (q_tys cI cB cZ) [(ma, .inr (10, [.ref mt, .int (nI tn), .int (nI n), .ref mk, .ref mw, .ref mc, .ref mh, .ref mp, .int (nI ow), .int ss, .int (nI uc), .ref mb, .int (nI kc), .ref me, .int (nI sc), .ref wp0, .ref wo0, .ref wb0, .int at0, .int rm0, .int ro0, .int rs0, .ref mr, .ref ml])), (mk, .inl (cI, 7, .inl mK)), (mw, .inl (cI, 7, .inl mW)), (mc, .inl (cI, 7, .inl mC)), (mh, .inl (cI, 7, .inl mH)), (ml, .inl (cI, 128, .inl mL))] zz)) (va_Qi (S := (Nat → Int32)) (fun r u => r = A_rests T n ss w ∧ True) (fun u t => va_P D vwCl ((fun u => [(ma, .inr (10, [.ref mt, .int (nI tn), .int (nI n), .ref mk, .ref mw, .ref mc, .ref mh, .ref mp, .int (nI ow), .int ss, .int (nI uc), .ref mb, .int (nI kc), .ref me, .int (nI sc), .ref wp0, .ref wo0, .ref wb0, .int at0, .int rm0, .int ro0, .int rs0, .ref mr, .ref ml])), (mk, .inl (cI, 7, .inl mK)), (mw, .inl (cI, 7, .inl mW)), (mc, .inl (cI, 7, .inl mC)), (mh, .inl (cI, 7, .inl mH)), (ml, .inl (cI, 128, .inl u))]) u) t.heap) (va_A [(ma, .inr (10, [.ref mt, .int (nI tn), .int (nI n), .ref mk, .ref mw, .ref mc, .ref mh, .ref mp, .int (nI ow), .int ss, .int (nI uc), .ref mb, .int (nI kc), .ref me, .int (nI sc), .ref wp0, .ref wo0, .ref wb0, .int at0, .int rm0, .int ro0, .int rs0, .ref mr, .ref ml])), (mk, .inl (cI, 7, .inl mK)), (mw, .inl (cI, 7, .inl mW)), (mc, .inl (cI, 7, .inl mC)), (mh, .inl (cI, 7, .inl mH)), (ml, .inl (cI, 128, .inl mL))] zz)) 0 0 (va_A [(ma, .inr (10, [.ref mt, .int (nI tn), .int (nI n), .ref mk, .ref mw, .ref mc, .ref mh, .ref mp, .int (nI ow), .int ss, .int (nI uc), .ref mb, .int (nI kc), .ref me, .int (nI sc), .ref wp0, .ref wo0, .ref wb0, .int at0, .int rm0, .int ro0, .int rs0, .ref mr, .ref ml])), (mk, .inl (cI, 7, .inl mK)), (mw, .inl (cI, 7, .inl mW)), (mc, .inl (cI, 7, .inl mC)), (mh, .inl (cI, 7, .inl mH)), (ml, .inl (cI, 128, .inl mL))] zz) := by
  refine Met.ofW (cc := cX10_rests) (maxL := 4) (ret := (some .int)) (by decide) rfl ?_
  intro p e s m args below meth c s₁ B hml hv
  obtain ⟨rfl, hsz, hP, hK, hD0⟩ := hv
  have hx := B.exec
  have hb := B.bytes
  have hr := B.returns
  have hts := atoms_spec (ws := wsX10_rests) B.pre
  have hown : s.vm.findClass RX10 = some m.cls := findClass_of_methodNamed B.named
  have hlocks := B.notSynchronized
  have hin10 : ∀ w ∈ u_ws RX10 TX10 24, w ∈ wsX10_rests := by decide +kernel
  subst hsz
  have hD := hD0.self (sz := s.heap.size)
  generalize hAe : va_A [(ma, .inr (10, [.ref mt, .int (nI tn), .int (nI n), .ref mk, .ref mw, .ref mc, .ref mh, .ref mp, .int (nI ow), .int ss, .int (nI uc), .ref mb, .int (nI kc), .ref me, .int (nI sc), .ref wp0, .ref wo0, .ref wb0, .int at0, .int rm0, .int ro0, .int rs0, .ref mr, .ref ml])), (mk, .inl (cI, 7, .inl mK)), (mw, .inl (cI, 7, .inl mW)), (mc, .inl (cI, 7, .inl mC)), (mh, .inl (cI, 7, .inl mH)), (ml, .inl (cI, 128, .inl mL))] s.heap.size = A at hD ⊢
  have hA : ∀ q : Nat, s.heap.size ≤ q → A q := fun q h => by rw [← hAe]; exact Or.inr h
  have hS : va_S A s.heap s.heap [] := va_S.rf
  have hP : va_P D vwCl [(ma, .inr (10, [.ref mt, .int (nI tn), .int (nI n), .ref mk, .ref mw, .ref mc, .ref mh, .ref mp, .int (nI ow), .int ss, .int (nI uc), .ref mb, .int (nI kc), .ref me, .int (nI sc), .ref wp0, .ref wo0, .ref wb0, .int at0, .int rm0, .int ro0, .int rs0, .ref mr, .ref ml])), (mk, .inl (cI, 7, .inl mK)), (mw, .inl (cI, 7, .inl mW)), (mc, .inl (cI, 7, .inl mC)), (mh, .inl (cI, 7, .inl mH)), (ml, .inl (cI, 128, .inl mL))] s.heap := hP
  have hl := lv_entry ([.ref ma, .int w]) (n := 4) (Nat.le_of_ble_eq_true rfl)
  rw [lg_entry_eq]
  generalize (lg_sl ([.ref ma, .int w]) ++ List.replicate (4 - (lg_sl ([.ref ma, .int w])).length) Slot.unset).toArray = ls at hl ⊢
  have hl : lv_has ls 4 [(0, .ref ma), (1, .int w)] := hl
  have hn7 := hB.1
  have hp2 : 2 ^ n ≤ 128 := q_p2 hB.1
  have hpp := Nat.two_pow_pos n
  have L16 : ∀ (fuel : Nat) (j : Nat) (sv : Nat) (a : Nat) (g : Nat → Int32) (hg : ∀ S, S < 2 ^ n → g S = nI (q_rd T n ss false S)) (hj : j + sv = 2 ^ n) (ha : a ≤ sv) (hC : a = q_cr (q_rs T n ss) sv) (hE : ∀ k, w = nI k → k < 2147483648 → q_ra (q_rs T n ss) k (2 ^ n) 0 0 = q_ra (q_rs T n ss) k j sv a) (hwm : (-1 : Int32) ≤ w) (hf : j < fuel) (H : Heap) (locs : List Loc) (hP : va_P D vwCl [(ma, .inr (10, [.ref mt, .int (nI tn), .int (nI n), .ref mk, .ref mw, .ref mc, .ref mh, .ref mp, .int (nI ow), .int ss, .int (nI uc), .ref mb, .int (nI kc), .ref me, .int (nI sc), .ref wp0, .ref wo0, .ref wb0, .int at0, .int rm0, .int ro0, .int rs0, .ref mr, .ref ml])), (mk, .inl (cI, 7, .inl mK)), (mw, .inl (cI, 7, .inl mW)), (mc, .inl (cI, 7, .inl mC)), (mh, .inl (cI, 7, .inl mH)), (ml, .inl (cI, 128, .inl g))] H) (hD : va_D A [(ma, .inr (10, [.ref mt, .int (nI tn), .int (nI n), .ref mk, .ref mw, .ref mc, .ref mh, .ref mp, .int (nI ow), .int ss, .int (nI uc), .ref mb, .int (nI kc), .ref me, .int (nI sc), .ref wp0, .ref wo0, .ref wb0, .int at0, .int rm0, .int ro0, .int rs0, .ref mr, .ref ml])), (mk, .inl (cI, 7, .inl mK)), (mw, .inl (cI, 7, .inl mW)), (mc, .inl (cI, 7, .inl mC)), (mh, .inl (cI, 7, .inl mH)), (ml, .inl (cI, 128, .inl g))]) (hS : va_S A s.heap H locs) (ls : Array Slot) (hl : lv_has ls 4 [(0, .ref ma), (1, .int w), (2, .int (nI a)), (3, .int (nI sv))]), W p l e (headSpec wsX10_rests ({ frames := 7, cells := 0, slots := 0, locals := 159 } : Room)).room s m ([.ref ma, .int w] : List Value).toArray below meth c H locs 0 0 (MQ below (va_Qi (S := (Nat → Int32)) (fun r u => r = A_rests T n ss w ∧ True) (fun u t => va_P D vwCl ((fun u => [(ma, .inr (10, [.ref mt, .int (nI tn), .int (nI n), .ref mk, .ref mw, .ref mc, .ref mh, .ref mp, .int (nI ow), .int ss, .int (nI uc), .ref mb, .int (nI kc), .ref me, .int (nI sc), .ref wp0, .ref wo0, .ref wb0, .int at0, .int rm0, .int ro0, .int rs0, .ref mr, .ref ml])), (mk, .inl (cI, 7, .inl mK)), (mw, .inl (cI, 7, .inl mW)), (mc, .inl (cI, 7, .inl mC)), (mh, .inl (cI, 7, .inl mH)), (ml, .inl (cI, 128, .inl u))]) u) t.heap) A) ([.ref ma, .int w] : List Value).toArray s 0 0 A) (F0 m 16 ls []) := by
    intro fuel
    induction fuel with
    | zero =>
      intro j sv a g hg hj ha hC hE hwm hf H locs hP hD hS ls hl
      exact absurd hf (Nat.not_lt_zero _)
    | succ fuel ih16 =>
      intro j sv a g hg hj ha hC hE hwm hf H locs hP hD hS ls hl
      refine lv_iload_n hx hb dX10_rests_16 rfl (lv_at hl 3 rfl) ?_
      refine lv_aload_n hx hb dX10_rests_17 rfl (lv_at hl 0 rfl) ?_
      refine q_vi (As := []) (rest := [.int (nI sv)]) ⟨hx, hb, hml, hown, hts⟩ (c_X10_all l (D := D) (cI := cI) (cB := cB) (cZ := cZ) (ma := ma) (mt := mt) (mk := mk) (mw := mw) (mc := mc) (mh := mh) (mp := mp) (mb := mb) (me := me) (wp0 := wp0) (wo0 := wo0) (wb0 := wb0) (mr := mr) (ml := ml) (tn := tn) (n := n) (ow := ow) (uc := uc) (kc := kc) (sc := sc) (ss := ss) (at0 := at0) (rm0 := rm0) (ro0 := ro0) (rs0 := rs0) (by omega)) (cwV 0 hts gX10_rests_X10_all rfl rfl rfl (by decide +kernel) ⟨Nat.le_of_ble_eq_true rfl, Nat.le_of_ble_eq_true rfl⟩) hK hP [0] rfl 0 10 rfl rfl rfl rfl hl.1 rfl (Nat.le_of_ble_eq_true rfl) dX10_rests_18 ⟨Nat.zero_le _, Nat.zero_le _⟩ (fun r_18 hr_18 => ?_)
      have hr_18 : nI (2 ^ n - 1) = r_18 := (show r_18 = nI (2 ^ n - 1) from hr_18).symm
      subst hr_18
      refine q_ngt (tgt := 50) hx hb dX10_rests_21 (by decide) (by omega) (by omega) (fun c_21 => ?_) (fun c_21 => ?_)
      · refine lv_iload_n hx hb dX10_rests_50 rfl (lv_at hl 1 rfl) ?_
        refine lv_if_ge (x := w) (tgt := 58) hx hb dX10_rests_51 (by decide) (fun c_51 => ?_) (fun c_51 => ?_)
        · refine lv_bipush (v := (-4 : Int32)) hx hb dX10_rests_58 (by decide) ?_
          exact q_mret (S := (Nat → Int32)) (v := (-4 : Int32)) (w1 := fun u => [(ma, .inr (10, [.ref mt, .int (nI tn), .int (nI n), .ref mk, .ref mw, .ref mc, .ref mh, .ref mp, .int (nI ow), .int ss, .int (nI uc), .ref mb, .int (nI kc), .ref me, .int (nI sc), .ref wp0, .ref wo0, .ref wb0, .int at0, .int rm0, .int ro0, .int rs0, .ref mr, .ref ml])), (mk, .inl (cI, 7, .inl mK)), (mw, .inl (cI, 7, .inl mW)), (mc, .inl (cI, 7, .inl mC)), (mh, .inl (cI, 7, .inl mH)), (ml, .inl (cI, 128, .inl u))]) g hx hb hr hlocks (rfl) hP hS dX10_rests_60 (by exact ⟨by have h7 := q_nIof (w := w) (fun z => by rw [Int32.le_iff_toInt_le] at c_51; have e0 : (0 : Int32).toInt = 0 := rfl; omega); rw [A_restsK h7.1 h7.2, hE _ h7.1 h7.2, show j = 0 from by omega]; rfl, trivial⟩)
        · refine lv_iload_n hx hb dX10_rests_54 rfl (lv_at hl 2 rfl) ?_
          refine lv_goto (tgt := 60) hx hb dX10_rests_55 (by decide) ?_
          exact q_mret (S := (Nat → Int32)) (v := nI a) (w1 := fun u => [(ma, .inr (10, [.ref mt, .int (nI tn), .int (nI n), .ref mk, .ref mw, .ref mc, .ref mh, .ref mp, .int (nI ow), .int ss, .int (nI uc), .ref mb, .int (nI kc), .ref me, .int (nI sc), .ref wp0, .ref wo0, .ref wb0, .int at0, .int rm0, .int ro0, .int rs0, .ref mr, .ref ml])), (mk, .inl (cI, 7, .inl mK)), (mw, .inl (cI, 7, .inl mW)), (mc, .inl (cI, 7, .inl mC)), (mh, .inl (cI, 7, .inl mH)), (ml, .inl (cI, 128, .inl u))]) g hx hb hr hlocks (rfl) hP hS dX10_rests_60 (by exact ⟨by rw [A_restsM (q_neg1 (by rw [Int32.le_iff_toInt_le] at c_51; have e0 : (0 : Int32).toInt = 0 := rfl; omega) hwm), hC, show sv = 2 ^ n from by omega], trivial⟩)
      · obtain ⟨jj, rfl⟩ : ∃ jj, j = jj + 1 := ⟨j - 1, by omega⟩
        refine lv_aload_n hx hb dX10_rests_24 rfl (lv_at hl 0 rfl) ?_
        refine q_get (ci := 10) (CC := RX10) (T := TX10) (N := 24) (v := .ref ml) hx hb hts hin10 hown hK hP 0 rfl rfl 23 (by decide) (hts (.fieldLink RX10 54 "DearAsManyModel" "leads" "[I") (by decide +kernel)) rfl rfl dX10_rests_25 ?_
        refine lv_iload_n hx hb dX10_rests_28 rfl (lv_at hl 3 rfl) ?_
        refine q_aldv (v := nI (q_rd T n ss false sv)) hx hb hK hP 5 0 rfl rfl (by omega) (by decide) dX10_rests_29 (hg sv (by omega)) ?_
        refine lv_iload_n hx hb dX10_rests_30 rfl (lv_at hl 3 rfl) ?_
        refine q_nne (tgt := 44) hx hb dX10_rests_31 (by decide) (by have := q_rd_lt (T := T) (n := n) (se := ss) (t := false) (S := sv) (by omega); omega) (by omega) (fun c_31 => ?_) (fun c_31 => ?_)
        · refine lv_iinc (v := nI (sv + 1)) (lv' := [(3, .int (nI (sv + 1))), (0, .ref ma), (1, .int w), (2, .int (nI a))]) hx hb dX10_rests_44 hl (k := 3) rfl (nI_add _ 1) (by decide) rfl (fun ls hl => ?_)
          refine lv_goto (tgt := 16) hx hb dX10_rests_47 (by decide) ?_
          exact ih16 jj (sv + 1) a g (hg) (by omega) (by omega) (by rw [hC, q_cr, if_neg (by rw [q_rsF c_31]; decide)]) (fun k h1 h2 => by rw [hE k h1 h2, q_ra, if_neg (by rw [q_rsF c_31]; decide)]) (hwm) (by omega) _ _ hP hD hS ls (lv_sub hl [1, 2, 3, 0] rfl)
        · refine lv_iload_n hx hb dX10_rests_34 rfl (lv_at hl 2 rfl) ?_
          refine lv_iload_n hx hb dX10_rests_35 rfl (lv_at hl 1 rfl) ?_
          refine lv_icmp_ne (x := nI a) (y := w) (tgt := 41) hx hb dX10_rests_36 (by decide) (fun c_36 => ?_) (fun c_36 => ?_)
          · refine lv_iinc (v := nI (a + 1)) (lv' := [(2, .int (nI (a + 1))), (0, .ref ma), (1, .int w), (3, .int (nI sv))]) hx hb dX10_rests_41 hl (k := 2) rfl (nI_add _ 1) (by decide) rfl (fun ls hl => ?_)
            refine lv_iinc (v := nI (sv + 1)) (lv' := [(3, .int (nI (sv + 1))), (2, .int (nI (a + 1))), (0, .ref ma), (1, .int w)]) hx hb dX10_rests_44 hl (k := 3) rfl (nI_add _ 1) (by decide) rfl (fun ls hl => ?_)
            refine lv_goto (tgt := 16) hx hb dX10_rests_47 (by decide) ?_
            exact ih16 jj (sv + 1) (a + 1) g (hg) (by omega) (by omega) (by rw [hC, q_cr, if_pos (q_rd_rs c_31)]) (fun k h1 h2 => by rw [hE k h1 h2, q_ra, if_pos (q_rd_rs c_31), if_neg (fun z => c_36 (by rw [z, ← h1]))]) (hwm) (by omega) _ _ hP hD hS ls (lv_sub hl [2, 3, 1, 0] rfl)
          · refine lv_iload_n hx hb dX10_rests_39 rfl (lv_at hl 3 rfl) ?_
            exact q_mret (S := (Nat → Int32)) (v := nI sv) (w1 := fun u => [(ma, .inr (10, [.ref mt, .int (nI tn), .int (nI n), .ref mk, .ref mw, .ref mc, .ref mh, .ref mp, .int (nI ow), .int ss, .int (nI uc), .ref mb, .int (nI kc), .ref me, .int (nI sc), .ref wp0, .ref wo0, .ref wb0, .int at0, .int rm0, .int ro0, .int rs0, .ref mr, .ref ml])), (mk, .inl (cI, 7, .inl mK)), (mw, .inl (cI, 7, .inl mW)), (mc, .inl (cI, 7, .inl mC)), (mh, .inl (cI, 7, .inl mH)), (ml, .inl (cI, 128, .inl u))]) g hx hb hr hlocks (rfl) hP hS dX10_rests_40 (by exact ⟨by rw [A_restsK c_36.symm (by omega), hE a c_36.symm (by omega), q_ra, if_pos (q_rd_rs c_31), if_pos rfl], trivial⟩)
  refine lv_iload_n hx hb dX10_rests_0 rfl (lv_at hl 1 rfl) ?_
  refine lv_iconst (v := (-1 : Int32)) hx hb dX10_rests_1 (by decide) ?_
  refine lv_icmp_ge (x := w) (y := (-1 : Int32)) (tgt := 7) hx hb dX10_rests_2 (by decide) (fun c_2 => ?_) (fun c_2 => ?_)
  · refine lv_aload_n hx hb dX10_rests_7 rfl (lv_at hl 0 rfl) ?_
    refine lv_iconst (v := bI false) hx hb dX10_rests_8 (by decide) ?_
    refine q_vmv (S := (Nat → Int32)) (w1 := fun u => [(ma, .inr (10, [.ref mt, .int (nI tn), .int (nI n), .ref mk, .ref mw, .ref mc, .ref mh, .ref mp, .int (nI ow), .int ss, .int (nI uc), .ref mb, .int (nI kc), .ref me, .int (nI sc), .ref wp0, .ref wo0, .ref wb0, .int at0, .int rm0, .int ro0, .int rs0, .ref mr, .ref ml])), (mk, .inl (cI, 7, .inl mK)), (mw, .inl (cI, 7, .inl mW)), (mc, .inl (cI, 7, .inl mC)), (mh, .inl (cI, 7, .inl mH)), (ml, .inl (cI, 128, .inl u))]) (w2 := fun u => [(ma, .inr (10, [.ref mt, .int (nI tn), .int (nI n), .ref mk, .ref mw, .ref mc, .ref mh, .ref mp, .int (nI ow), .int ss, .int (nI uc), .ref mb, .int (nI kc), .ref me, .int (nI sc), .ref wp0, .ref wo0, .ref wb0, .int at0, .int rm0, .int ro0, .int rs0, .ref mr, .ref ml])), (mk, .inl (cI, 7, .inl mK)), (mw, .inl (cI, 7, .inl mW)), (mc, .inl (cI, 7, .inl mC)), (mh, .inl (cI, 7, .inl mH)), (ml, .inl (cI, 128, .inl u))]) (As := [.int (bI false)]) (rest := []) ⟨hx, hb, hml, hown, hts⟩ (c_X10_tells l (D := D) (cI := cI) (cB := cB) (cZ := cZ) (ma := ma) (mt := mt) (mk := mk) (mw := mw) (mc := mc) (mh := mh) (mp := mp) (mb := mb) (me := me) (wp0 := wp0) (wo0 := wo0) (wb0 := wb0) (mr := mr) (ml := ml) (tn := tn) (n := n) (ow := ow) (uc := uc) (kc := kc) (sc := sc) (ss := ss) (at0 := at0) (rm0 := rm0) (ro0 := ro0) (rs0 := rs0) (mK := mK) (mW := mW) (mC := mC) (mH := mH) (T := T) (t := false) (mL := mL) (by first | assumption | exact Nat.zero_le _ | omega) (by first | assumption | exact Nat.zero_le _ | omega) (by first | assumption | exact Nat.zero_le _ | omega)) (cwV 1 hts gX10_rests_X10_tells rfl rfl rfl (by decide +kernel) ⟨Nat.le_of_ble_eq_true rfl, Nat.le_of_ble_eq_true rfl⟩) hK hP hD hS hA [0, 1, 2, 3, 4, 5] rfl (by decide) 0 10 rfl rfl rfl rfl hl.1 rfl (Nat.le_of_ble_eq_true rfl) dX10_rests_9 ⟨Nat.zero_le _, Nat.zero_le _⟩ (fun _ => rfl) (fun _ => rfl) (fun _ => rfl) (fun w1 H locs hr_9 hP hD hS => ?_)
    have hP : va_P D vwCl [(ma, .inr (10, [.ref mt, .int (nI tn), .int (nI n), .ref mk, .ref mw, .ref mc, .ref mh, .ref mp, .int (nI ow), .int ss, .int (nI uc), .ref mb, .int (nI kc), .ref me, .int (nI sc), .ref wp0, .ref wo0, .ref wb0, .int at0, .int rm0, .int ro0, .int rs0, .ref mr, .ref ml])), (mk, .inl (cI, 7, .inl mK)), (mw, .inl (cI, 7, .inl mW)), (mc, .inl (cI, 7, .inl mC)), (mh, .inl (cI, 7, .inl mH)), (ml, .inl (cI, 128, .inl w1))] H := hP
    have hD : va_D A [(ma, .inr (10, [.ref mt, .int (nI tn), .int (nI n), .ref mk, .ref mw, .ref mc, .ref mh, .ref mp, .int (nI ow), .int ss, .int (nI uc), .ref mb, .int (nI kc), .ref me, .int (nI sc), .ref wp0, .ref wo0, .ref wb0, .int at0, .int rm0, .int ro0, .int rs0, .ref mr, .ref ml])), (mk, .inl (cI, 7, .inl mK)), (mw, .inl (cI, 7, .inl mW)), (mc, .inl (cI, 7, .inl mC)), (mh, .inl (cI, 7, .inl mH)), (ml, .inl (cI, 128, .inl w1))] := hD
    try dsimp only at hr_9
    refine lv_iconst (v := nI 0) hx hb dX10_rests_12 (by decide) ?_
    refine lv_istore_n (lv' := [(2, .int (nI 0)), (0, .ref ma), (1, .int w)]) hx hb dX10_rests_13 rfl hl (by decide) rfl (fun ls hl => ?_)
    refine lv_iconst (v := nI 0) hx hb dX10_rests_14 (by decide) ?_
    refine lv_istore_n (lv' := [(3, .int (nI 0)), (2, .int (nI 0)), (0, .ref ma), (1, .int w)]) hx hb dX10_rests_15 rfl hl (by decide) rfl (fun ls hl => ?_)
    exact L16 _ (2 ^ n) 0 0 w1 (hr_9) (rfl) (Nat.le_refl 0) (rfl) (fun k _ _ => rfl) (c_2) (Nat.lt_succ_self _) _ _ hP hD hS ls (lv_sub hl [2, 3, 1, 0] rfl)
  · refine lv_iconst (v := (-1 : Int32)) hx hb dX10_rests_5 (by decide) ?_
    exact q_mret (S := (Nat → Int32)) (v := (-1 : Int32)) (w1 := fun u => [(ma, .inr (10, [.ref mt, .int (nI tn), .int (nI n), .ref mk, .ref mw, .ref mc, .ref mh, .ref mp, .int (nI ow), .int ss, .int (nI uc), .ref mb, .int (nI kc), .ref me, .int (nI sc), .ref wp0, .ref wo0, .ref wb0, .int at0, .int rm0, .int ro0, .int rs0, .ref mr, .ref ml])), (mk, .inl (cI, 7, .inl mK)), (mw, .inl (cI, 7, .inl mW)), (mc, .inl (cI, 7, .inl mC)), (mh, .inl (cI, 7, .inl mH)), (ml, .inl (cI, 128, .inl u))]) mL hx hb hr hlocks (rfl) hP hS dX10_rests_6 (by exact ⟨by rw [A_restsB c_2], trivial⟩)

set_option maxHeartbeats 4000000 in
set_option maxRecDepth 100000 in
theorem c_X10_tip (l : Launch) {D : va_G} {cI cB cZ : ClassId} {ma : Nat} {mt : Nat} {mk : Nat} {mw : Nat} {mc : Nat} {mh : Nat} {mp : Nat} {mb : Nat} {me : Nat} {wp0 : Nat} {wo0 : Nat} {wb0 : Nat} {mr : Nat} {ml : Nat} {tn : Nat} {n : Nat} {ow : Nat} {uc : Nat} {kc : Nat} {sc : Nat} {ss : Int32} {at0 : Int32} {rm0 : Int32} {ro0 : Int32} {rs0 : Int32} {mK : Nat → Int32} {mW : Nat → Int32} {mC : Nat → Int32} {mH : Nat → Int32} {T : Nat → Nat → Nat} {w : Int32} {v : Int32} {t : Bool} {mL : Nat → Int32} {zz : Nat} (hMT : q_MT T n mK mW mC mH) (hB : q_Bd T n) (hn1 : 1 ≤ n) (how : ow < 2 ^ n) : Met l yX10_tip wsX10_tip ({ frames := 7, cells := 0, slots := 0, locals := 159 } : Room) (va_Pc [.ref ma, .int w, .int (bI t), .int v] (q_M D (q_tys cI cB cZ) [(ma, .inr (10, [.ref mt, .int (nI tn), .int (nI n), .ref mk, .ref mw, .ref mc, .ref mh, .ref mp, .int (nI ow), .int ss, .int (nI uc), .ref mb, .int (nI kc), .ref me, .int (nI sc), .ref wp0, .ref wo0, .ref wb0, .int at0, .int rm0, .int ro0, .int rs0, .ref mr, .ref ml])), (mk, .inl (cI, 7, .inl mK)), (mw, .inl (cI, 7, .inl mW)), (mc, .inl (cI, 7, .inl mC)), (mh, .inl (cI, 7, .inl mH)), (ml, .inl (cI, 128, .inl mL))] zz)) (va_Qi (S := (Nat → Int32)) (fun r u => r = A_tip T n ss ow w t v ∧ True) (fun u t => va_P D vwCl ((fun u => [(ma, .inr (10, [.ref mt, .int (nI tn), .int (nI n), .ref mk, .ref mw, .ref mc, .ref mh, .ref mp, .int (nI ow), .int ss, .int (nI uc), .ref mb, .int (nI kc), .ref me, .int (nI sc), .ref wp0, .ref wo0, .ref wb0, .int at0, .int rm0, .int ro0, .int rs0, .ref mr, .ref ml])), (mk, .inl (cI, 7, .inl mK)), (mw, .inl (cI, 7, .inl mW)), (mc, .inl (cI, 7, .inl mC)), (mh, .inl (cI, 7, .inl mH)), (ml, .inl (cI, 128, .inl u))]) u) t.heap) (va_A [(ma, .inr (10, [.ref mt, .int (nI tn), .int (nI n), .ref mk, .ref mw, .ref mc, .ref mh, .ref mp, .int (nI ow), .int ss, .int (nI uc), .ref mb, .int (nI kc), .ref me, .int (nI sc), .ref wp0, .ref wo0, .ref wb0, .int at0, .int rm0, .int ro0, .int rs0, .ref mr, .ref ml])), (mk, .inl (cI, 7, .inl mK)), (mw, .inl (cI, 7, .inl mW)), (mc, .inl (cI, 7, .inl mC)), (mh, .inl (cI, 7, .inl mH)), (ml, .inl (cI, 128, .inl mL))] zz)) 0 0 (va_A [(ma, .inr (10, [.ref mt, .int (nI tn), .int (nI n), .ref mk, .ref mw, .ref mc, .ref mh, .ref mp, .int (nI ow), .int ss, .int (nI uc), .ref mb, .int (nI kc), .ref me, .int (nI sc), .ref wp0, .ref wo0, .ref wb0, .int at0, .int rm0, .int ro0, .int rs0, .ref mr, .ref ml])), (mk, .inl (cI, 7, .inl mK)), (mw, .inl (cI, 7, .inl mW)), (mc, .inl (cI, 7, .inl mC)), (mh, .inl (cI, 7, .inl mH)), (ml, .inl (cI, 128, .inl mL))] zz) := by
  refine Met.ofW (cc := cX10_tip) (maxL := 8) (ret := (some .int)) (by decide) rfl ?_
  intro p e s m args below meth c s₁ B hml hv
  obtain ⟨rfl, hsz, hP, hK, hD0⟩ := hv
  have hx := B.exec
  have hb := B.bytes
  have hr := B.returns
  have hts := atoms_spec (ws := wsX10_tip) B.pre
  have hown : s.vm.findClass RX10 = some m.cls := findClass_of_methodNamed B.named
  have hlocks := B.notSynchronized
  have hin10 : ∀ w ∈ u_ws RX10 TX10 24, w ∈ wsX10_tip := by decide +kernel
  subst hsz
  have hD := hD0.self (sz := s.heap.size)
  generalize hAe : va_A [(ma, .inr (10, [.ref mt, .int (nI tn), .int (nI n), .ref mk, .ref mw, .ref mc, .ref mh, .ref mp, .int (nI ow), .int ss, .int (nI uc), .ref mb, .int (nI kc), .ref me, .int (nI sc), .ref wp0, .ref wo0, .ref wb0, .int at0, .int rm0, .int ro0, .int rs0, .ref mr, .ref ml])), (mk, .inl (cI, 7, .inl mK)), (mw, .inl (cI, 7, .inl mW)), (mc, .inl (cI, 7, .inl mC)), (mh, .inl (cI, 7, .inl mH)), (ml, .inl (cI, 128, .inl mL))] s.heap.size = A at hD ⊢
  have hA : ∀ q : Nat, s.heap.size ≤ q → A q := fun q h => by rw [← hAe]; exact Or.inr h
  have hS : va_S A s.heap s.heap [] := va_S.rf
  have hP : va_P D vwCl [(ma, .inr (10, [.ref mt, .int (nI tn), .int (nI n), .ref mk, .ref mw, .ref mc, .ref mh, .ref mp, .int (nI ow), .int ss, .int (nI uc), .ref mb, .int (nI kc), .ref me, .int (nI sc), .ref wp0, .ref wo0, .ref wb0, .int at0, .int rm0, .int ro0, .int rs0, .ref mr, .ref ml])), (mk, .inl (cI, 7, .inl mK)), (mw, .inl (cI, 7, .inl mW)), (mc, .inl (cI, 7, .inl mC)), (mh, .inl (cI, 7, .inl mH)), (ml, .inl (cI, 128, .inl mL))] s.heap := hP
  have hl := lv_entry ([.ref ma, .int w, .int (bI t), .int v]) (n := 8) (Nat.le_of_ble_eq_true rfl)
  rw [lg_entry_eq]
  generalize (lg_sl ([.ref ma, .int w, .int (bI t), .int v]) ++ List.replicate (8 - (lg_sl ([.ref ma, .int w, .int (bI t), .int v])).length) Slot.unset).toArray = ls at hl ⊢
  have hl : lv_has ls 8 [(0, .ref ma), (1, .int w), (2, .int (bI t)), (3, .int v)] := hl
  have hn7 := hB.1
  have hp2 : 2 ^ n ≤ 128 := q_p2 hB.1
  have ho128 := q_S128 hB how
  have hpp := Nat.two_pow_pos n
  have L38 : ∀ (fuel : Nat) (pv : Nat) (g0 : Nat) (g : Nat → Int32) (hw : q_ix (2 ^ n) w = some g0) (hg0 : g0 < 2 ^ n) (hv : q_eit v = true) (hs : pv ≤ 2 ^ n) (hg : ∀ S, S < 2 ^ n → g S = nI (q_rd T n ss t S)) (hf : 2 ^ n - pv < fuel) (H : Heap) (locs : List Loc) (hP : va_P D vwCl [(ma, .inr (10, [.ref mt, .int (nI tn), .int (nI n), .ref mk, .ref mw, .ref mc, .ref mh, .ref mp, .int (nI ow), .int ss, .int (nI uc), .ref mb, .int (nI kc), .ref me, .int (nI sc), .ref wp0, .ref wo0, .ref wb0, .int at0, .int rm0, .int ro0, .int rs0, .ref mr, .ref ml])), (mk, .inl (cI, 7, .inl mK)), (mw, .inl (cI, 7, .inl mW)), (mc, .inl (cI, 7, .inl mC)), (mh, .inl (cI, 7, .inl mH)), (ml, .inl (cI, 128, .inl g))] H) (hD : va_D A [(ma, .inr (10, [.ref mt, .int (nI tn), .int (nI n), .ref mk, .ref mw, .ref mc, .ref mh, .ref mp, .int (nI ow), .int ss, .int (nI uc), .ref mb, .int (nI kc), .ref me, .int (nI sc), .ref wp0, .ref wo0, .ref wb0, .int at0, .int rm0, .int ro0, .int rs0, .ref mr, .ref ml])), (mk, .inl (cI, 7, .inl mK)), (mw, .inl (cI, 7, .inl mW)), (mc, .inl (cI, 7, .inl mC)), (mh, .inl (cI, 7, .inl mH)), (ml, .inl (cI, 128, .inl g))]) (hS : va_S A s.heap H locs) (ls : Array Slot) (hl : lv_has ls 8 [(0, .ref ma), (1, .int (nI g0)), (3, .int v), (4, .int (q_oc (q_min (q_Pm T n ss t ow g0) pv))), (5, .int (nI pv))]), W p l e (headSpec wsX10_tip ({ frames := 7, cells := 0, slots := 0, locals := 159 } : Room)).room s m ([.ref ma, .int w, .int (bI t), .int v] : List Value).toArray below meth c H locs 0 0 (MQ below (va_Qi (S := (Nat → Int32)) (fun r u => r = A_tip T n ss ow w t v ∧ True) (fun u t => va_P D vwCl ((fun u => [(ma, .inr (10, [.ref mt, .int (nI tn), .int (nI n), .ref mk, .ref mw, .ref mc, .ref mh, .ref mp, .int (nI ow), .int ss, .int (nI uc), .ref mb, .int (nI kc), .ref me, .int (nI sc), .ref wp0, .ref wo0, .ref wb0, .int at0, .int rm0, .int ro0, .int rs0, .ref mr, .ref ml])), (mk, .inl (cI, 7, .inl mK)), (mw, .inl (cI, 7, .inl mW)), (mc, .inl (cI, 7, .inl mC)), (mh, .inl (cI, 7, .inl mH)), (ml, .inl (cI, 128, .inl u))]) u) t.heap) A) ([.ref ma, .int w, .int (bI t), .int v] : List Value).toArray s 0 0 A) (F0 m 38 ls []) := by
    intro fuel
    induction fuel with
    | zero =>
      intro pv g0 g hw hg0 hv hs hg hf H locs hP hD hS ls hl
      exact absurd hf (Nat.not_lt_zero _)
    | succ fuel ih38 =>
      intro pv g0 g hw hg0 hv hs hg hf H locs hP hD hS ls hl
      have L59 : ∀ (fuel : Nat) (k : Nat) (hk : k ≤ 128) (hpv : pv < 2 ^ n) (hf : 128 - k < fuel) (H : Heap) (locs : List Loc) (hP : va_P D vwCl [(ma, .inr (10, [.ref mt, .int (nI tn), .int (nI n), .ref mk, .ref mw, .ref mc, .ref mh, .ref mp, .int (nI ow), .int ss, .int (nI uc), .ref mb, .int (nI kc), .ref me, .int (nI sc), .ref wp0, .ref wo0, .ref wb0, .int at0, .int rm0, .int ro0, .int rs0, .ref mr, .ref ml])), (mk, .inl (cI, 7, .inl mK)), (mw, .inl (cI, 7, .inl mW)), (mc, .inl (cI, 7, .inl mC)), (mh, .inl (cI, 7, .inl mH)), (ml, .inl (cI, 128, .inl g))] H) (hD : va_D A [(ma, .inr (10, [.ref mt, .int (nI tn), .int (nI n), .ref mk, .ref mw, .ref mc, .ref mh, .ref mp, .int (nI ow), .int ss, .int (nI uc), .ref mb, .int (nI kc), .ref me, .int (nI sc), .ref wp0, .ref wo0, .ref wb0, .int at0, .int rm0, .int ro0, .int rs0, .ref mr, .ref ml])), (mk, .inl (cI, 7, .inl mK)), (mw, .inl (cI, 7, .inl mW)), (mc, .inl (cI, 7, .inl mC)), (mh, .inl (cI, 7, .inl mH)), (ml, .inl (cI, 128, .inl g))]) (hS : va_S A s.heap H locs) (ls : Array Slot) (hl : lv_has ls 8 [(0, .ref ma), (1, .int (nI g0)), (3, .int v), (4, .int (q_oc (q_min (q_Pm T n ss t ow g0) pv))), (5, .int (nI pv)), (6, .int (nI (q_it (q_rd T n ss t) k (ow ^^^ pv)))), (7, .int (nI k))]), W p l e (headSpec wsX10_tip ({ frames := 7, cells := 0, slots := 0, locals := 159 } : Room)).room s m ([.ref ma, .int w, .int (bI t), .int v] : List Value).toArray below meth c H locs 0 0 (MQ below (va_Qi (S := (Nat → Int32)) (fun r u => r = A_tip T n ss ow w t v ∧ True) (fun u t => va_P D vwCl ((fun u => [(ma, .inr (10, [.ref mt, .int (nI tn), .int (nI n), .ref mk, .ref mw, .ref mc, .ref mh, .ref mp, .int (nI ow), .int ss, .int (nI uc), .ref mb, .int (nI kc), .ref me, .int (nI sc), .ref wp0, .ref wo0, .ref wb0, .int at0, .int rm0, .int ro0, .int rs0, .ref mr, .ref ml])), (mk, .inl (cI, 7, .inl mK)), (mw, .inl (cI, 7, .inl mW)), (mc, .inl (cI, 7, .inl mC)), (mh, .inl (cI, 7, .inl mH)), (ml, .inl (cI, 128, .inl u))]) u) t.heap) A) ([.ref ma, .int w, .int (bI t), .int v] : List Value).toArray s 0 0 A) (F0 m 59 ls []) := by
        intro fuel
        induction fuel with
        | zero =>
          intro k hk hpv hf H locs hP hD hS ls hl
          exact absurd hf (Nat.not_lt_zero _)
        | succ fuel ih59 =>
          intro k hk hpv hf H locs hP hD hS ls hl
          have hxs : ow ^^^ pv < 2 ^ n := Nat.xor_lt_two_pow how hpv
          have hit := q_it_lt (f := q_rd T n ss t) (fun x hx => q_rd_lt hx) hxs k
          have hgg := q_rd_lt (T := T) (se := ss) (t := t) hg0
          refine lv_iload hx hb dX10_tip_59 (lv_at hl 6 rfl) ?_
          refine lv_sipush (v := nI 128) hx hb dX10_tip_61 (by decide) ?_
          refine q_nge (tgt := 82) hx hb dX10_tip_64 (by decide) (by omega) (by omega) (fun c_64 => ?_) (fun c_64 => ?_)
          · refine lv_iload hx hb dX10_tip_82 (lv_at hl 5 rfl) ?_
            refine lv_iload_n hx hb dX10_tip_84 rfl (lv_at hl 1 rfl) ?_
            refine q_nne (tgt := 102) hx hb dX10_tip_85 (by decide) (by omega) (by omega) (fun c_85 => ?_) (fun c_85 => ?_)
            · refine lv_iconst (v := nI 0) hx hb dX10_tip_102 (by decide) ?_
              refine lv_istore (lv' := [(7, .int (nI 0)), (0, .ref ma), (1, .int (nI g0)), (3, .int v), (4, .int (q_oc (q_min (q_Pm T n ss t ow g0) pv))), (5, .int (nI pv)), (6, .int (nI (q_it (q_rd T n ss t) k (ow ^^^ pv))))]) hx hb dX10_tip_103 hl (by decide) rfl (fun ls hl => ?_)
              refine lv_iload hx hb dX10_tip_105 (lv_at hl 0 rfl) ?_
              refine q_zeq (tgt := 135) hx hb dX10_tip_107 (by decide) (by omega) (fun c_107 => ?_) (fun c_107 => ?_)
              · refine lv_iload hx hb dX10_tip_135 (lv_at hl 4 rfl) ?_
                refine lv_istore (lv' := [(4, .int (q_oc (q_min (q_Pm T n ss t ow g0) pv))), (7, .int (nI 0)), (0, .ref ma), (1, .int (nI g0)), (3, .int v), (5, .int (nI pv)), (6, .int (nI (q_it (q_rd T n ss t) k (ow ^^^ pv))))]) hx hb dX10_tip_137 hl (by decide) rfl (fun ls hl => ?_)
                refine lv_iinc (v := nI (pv + 1)) (lv' := [(5, .int (nI (pv + 1))), (4, .int (q_oc (q_min (q_Pm T n ss t ow g0) pv))), (7, .int (nI 0)), (0, .ref ma), (1, .int (nI g0)), (3, .int v), (6, .int (nI (q_it (q_rd T n ss t) k (ow ^^^ pv))))]) hx hb dX10_tip_139 hl (k := 5) rfl (nI_add _ 1) (by decide) rfl (fun ls hl => ?_)
                refine lv_goto (tgt := 38) hx hb dX10_tip_142 (by decide) ?_
                have hl : lv_has ls 8 [(5, .int (nI (pv + 1))), (4, .int (q_oc (q_min (q_Pm T n ss t ow g0) (pv + 1)))), (7, .int (nI 0)), (0, .ref ma), (1, .int (nI g0)), (3, .int v), (6, .int (nI (q_it (q_rd T n ss t) k (ow ^^^ pv))))] := by rw [← show q_oc (q_min (q_Pm T n ss t ow g0) pv) = q_oc (q_min (q_Pm T n ss t ow g0) (pv + 1)) from by rw [q_minF (P := (q_Pm T n ss t ow g0)) (s := pv) (q_PmF1 (by omega) c_85)]]; exact hl
                exact ih38 (pv + 1) g0 g (hw) (hg0) (hv) (by omega) (hg) (by omega) _ _ hP hD hS ls (lv_sub hl [3, 4, 5, 1, 0] rfl)
              · exact absurd c_107 (by decide)
            · refine lv_aload_n hx hb dX10_tip_88 rfl (lv_at hl 0 rfl) ?_
              refine q_get (ci := 10) (CC := RX10) (T := TX10) (N := 24) (v := .ref ml) hx hb hts hin10 hown hK hP 0 rfl rfl 23 (by decide) (hts (.fieldLink RX10 54 "DearAsManyModel" "leads" "[I") (by decide +kernel)) rfl rfl dX10_tip_89 ?_
              refine lv_iload_n hx hb dX10_tip_92 rfl (lv_at hl 1 rfl) ?_
              refine q_aldv (v := nI (q_rd T n ss t g0)) hx hb hK hP 5 0 rfl rfl (by omega) (by decide) dX10_tip_93 (hg g0 hg0) ?_
              refine lv_iload_n hx hb dX10_tip_94 rfl (lv_at hl 1 rfl) ?_
              refine q_nne (tgt := 102) hx hb dX10_tip_95 (by decide) (by omega) (by omega) (fun c_95 => ?_) (fun c_95 => ?_)
              · refine lv_iconst (v := nI 0) hx hb dX10_tip_102 (by decide) ?_
                refine lv_istore (lv' := [(7, .int (nI 0)), (0, .ref ma), (1, .int (nI g0)), (3, .int v), (4, .int (q_oc (q_min (q_Pm T n ss t ow g0) pv))), (5, .int (nI pv)), (6, .int (nI (q_it (q_rd T n ss t) k (ow ^^^ pv))))]) hx hb dX10_tip_103 hl (by decide) rfl (fun ls hl => ?_)
                refine lv_iload hx hb dX10_tip_105 (lv_at hl 0 rfl) ?_
                refine q_zeq (tgt := 135) hx hb dX10_tip_107 (by decide) (by omega) (fun c_107 => ?_) (fun c_107 => ?_)
                · refine lv_iload hx hb dX10_tip_135 (lv_at hl 4 rfl) ?_
                  refine lv_istore (lv' := [(4, .int (q_oc (q_min (q_Pm T n ss t ow g0) pv))), (7, .int (nI 0)), (0, .ref ma), (1, .int (nI g0)), (3, .int v), (5, .int (nI pv)), (6, .int (nI (q_it (q_rd T n ss t) k (ow ^^^ pv))))]) hx hb dX10_tip_137 hl (by decide) rfl (fun ls hl => ?_)
                  refine lv_iinc (v := nI (pv + 1)) (lv' := [(5, .int (nI (pv + 1))), (4, .int (q_oc (q_min (q_Pm T n ss t ow g0) pv))), (7, .int (nI 0)), (0, .ref ma), (1, .int (nI g0)), (3, .int v), (6, .int (nI (q_it (q_rd T n ss t) k (ow ^^^ pv))))]) hx hb dX10_tip_139 hl (k := 5) rfl (nI_add _ 1) (by decide) rfl (fun ls hl => ?_)
                  refine lv_goto (tgt := 38) hx hb dX10_tip_142 (by decide) ?_
                  have hl : lv_has ls 8 [(5, .int (nI (pv + 1))), (4, .int (q_oc (q_min (q_Pm T n ss t ow g0) (pv + 1)))), (7, .int (nI 0)), (0, .ref ma), (1, .int (nI g0)), (3, .int v), (6, .int (nI (q_it (q_rd T n ss t) k (ow ^^^ pv))))] := by rw [← show q_oc (q_min (q_Pm T n ss t ow g0) pv) = q_oc (q_min (q_Pm T n ss t ow g0) (pv + 1)) from by rw [q_minF (P := (q_Pm T n ss t ow g0)) (s := pv) (q_PmF2 c_95)]]; exact hl
                  exact ih38 (pv + 1) g0 g (hw) (hg0) (hv) (by omega) (hg) (by omega) _ _ hP hD hS ls (lv_sub hl [3, 4, 5, 1, 0] rfl)
                · exact absurd c_107 (by decide)
              · refine lv_iconst (v := nI 1) hx hb dX10_tip_98 (by decide) ?_
                refine lv_goto (tgt := 103) hx hb dX10_tip_99 (by decide) ?_
                refine lv_istore (lv' := [(7, .int (nI 1)), (0, .ref ma), (1, .int (nI g0)), (3, .int v), (4, .int (q_oc (q_min (q_Pm T n ss t ow g0) pv))), (5, .int (nI pv)), (6, .int (nI (q_it (q_rd T n ss t) k (ow ^^^ pv))))]) hx hb dX10_tip_103 hl (by decide) rfl (fun ls hl => ?_)
                refine lv_iload hx hb dX10_tip_105 (lv_at hl 0 rfl) ?_
                refine q_zeq (tgt := 135) hx hb dX10_tip_107 (by decide) (by omega) (fun c_107 => ?_) (fun c_107 => ?_)
                · exact absurd c_107 (by decide)
                · rcases hm9 : q_min (q_Pm T n ss t ow g0) pv with _ | b3
                  · have hl : lv_has ls 8 [(7, .int (nI 1)), (0, .ref ma), (1, .int (nI g0)), (3, .int v), (4, .int (-4 : Int32)), (5, .int (nI pv)), (6, .int (nI (q_it (q_rd T n ss t) k (ow ^^^ pv))))] := by rw [← show q_oc (q_min (q_Pm T n ss t ow g0) pv) = (-4 : Int32) from by rw [hm9]; rfl]; exact hl
                    refine lv_iload hx hb dX10_tip_110 (lv_at hl 4 rfl) ?_
                    refine lv_bipush (v := (-4 : Int32)) hx hb dX10_tip_112 (by decide) ?_
                    refine lv_icmp_eq (x := (-4 : Int32)) (y := (-4 : Int32)) (tgt := 130) hx hb dX10_tip_114 (by decide) (fun c_114 => ?_) (fun c_114 => ?_)
                    · refine lv_iload hx hb dX10_tip_130 (lv_at hl 5 rfl) ?_
                      refine lv_goto (tgt := 137) hx hb dX10_tip_132 (by decide) ?_
                      refine lv_istore (lv' := [(4, .int (nI pv)), (7, .int (nI 1)), (0, .ref ma), (1, .int (nI g0)), (3, .int v), (5, .int (nI pv)), (6, .int (nI (q_it (q_rd T n ss t) k (ow ^^^ pv))))]) hx hb dX10_tip_137 hl (by decide) rfl (fun ls hl => ?_)
                      refine lv_iinc (v := nI (pv + 1)) (lv' := [(5, .int (nI (pv + 1))), (4, .int (nI pv)), (7, .int (nI 1)), (0, .ref ma), (1, .int (nI g0)), (3, .int v), (6, .int (nI (q_it (q_rd T n ss t) k (ow ^^^ pv))))]) hx hb dX10_tip_139 hl (k := 5) rfl (nI_add _ 1) (by decide) rfl (fun ls hl => ?_)
                      refine lv_goto (tgt := 38) hx hb dX10_tip_142 (by decide) ?_
                      have hl : lv_has ls 8 [(5, .int (nI (pv + 1))), (4, .int (q_oc (q_min (q_Pm T n ss t ow g0) (pv + 1)))), (7, .int (nI 1)), (0, .ref ma), (1, .int (nI g0)), (3, .int v), (6, .int (nI (q_it (q_rd T n ss t) k (ow ^^^ pv))))] := by rw [← show nI pv = q_oc (q_min (q_Pm T n ss t ow g0) (pv + 1)) from by rw [q_mN1 hm9 (q_PmT (by omega) c_85 c_95)]; rfl]; exact hl
                      exact ih38 (pv + 1) g0 g (hw) (hg0) (hv) (by omega) (hg) (by omega) _ _ hP hD hS ls (lv_sub hl [3, 4, 5, 1, 0] rfl)
                    · exact absurd c_114 ((fun z => z rfl))
                  · have hl : lv_has ls 8 [(7, .int (nI 1)), (0, .ref ma), (1, .int (nI g0)), (3, .int v), (4, .int (nI b3)), (5, .int (nI pv)), (6, .int (nI (q_it (q_rd T n ss t) k (ow ^^^ pv))))] := by rw [← show q_oc (q_min (q_Pm T n ss t ow g0) pv) = nI b3 from by rw [hm9]; rfl]; exact hl
                    refine lv_iload hx hb dX10_tip_110 (lv_at hl 4 rfl) ?_
                    refine lv_bipush (v := (-4 : Int32)) hx hb dX10_tip_112 (by decide) ?_
                    refine lv_icmp_eq (x := nI b3) (y := (-4 : Int32)) (tgt := 130) hx hb dX10_tip_114 (by decide) (fun c_114 => ?_) (fun c_114 => ?_)
                    · exact absurd c_114 ((q_m4ne (by have := q_min_lt hm9; omega)))
                    · refine lv_iload hx hb dX10_tip_117 (lv_at hl 5 rfl) ?_
                      refine q_si (As := [.int (nI pv)]) (rest := []) ⟨hx, hb, hml, hown, hts⟩ (c_X10_bits l (D := D) (cI := cI) (cB := cB) (cZ := cZ) (S := pv) (by omega)) (va_cwS 1 hts gX10_tip_X10_bits rfl rfl rfl (by decide +kernel) ⟨Nat.le_of_ble_eq_true rfl, Nat.le_of_ble_eq_true rfl⟩) hK hP [] rfl rfl hl.1 rfl (Nat.le_of_ble_eq_true rfl) dX10_tip_119 ⟨Nat.zero_le _, Nat.zero_le _⟩ (fun r_119 hr_119 => ?_)
                      have hr_119 : nI (pop8 pv) = r_119 := (show r_119 = nI (pop8 pv) from hr_119).symm
                      subst hr_119
                      refine lv_iload hx hb dX10_tip_122 (lv_at hl 4 rfl) ?_
                      refine q_si (As := [.int (nI b3)]) (rest := [.int (nI (pop8 pv))]) ⟨hx, hb, hml, hown, hts⟩ (c_X10_bits l (D := D) (cI := cI) (cB := cB) (cZ := cZ) (S := b3) (by have := q_min_lt hm9; omega)) (va_cwS 1 hts gX10_tip_X10_bits rfl rfl rfl (by decide +kernel) ⟨Nat.le_of_ble_eq_true rfl, Nat.le_of_ble_eq_true rfl⟩) hK hP [] rfl rfl hl.1 rfl (Nat.le_of_ble_eq_true rfl) dX10_tip_124 ⟨Nat.zero_le _, Nat.zero_le _⟩ (fun r_124 hr_124 => ?_)
                      have hr_124 : nI (pop8 b3) = r_124 := (show r_124 = nI (pop8 b3) from hr_124).symm
                      subst hr_124
                      refine q_nge (tgt := 135) hx hb dX10_tip_127 (by decide) (by have := pop8_le pv; omega) (by have := pop8_le b3; omega) (fun c_127 => ?_) (fun c_127 => ?_)
                      · refine lv_iload hx hb dX10_tip_135 (lv_at hl 4 rfl) ?_
                        refine lv_istore (lv' := [(4, .int (nI b3)), (7, .int (nI 1)), (0, .ref ma), (1, .int (nI g0)), (3, .int v), (5, .int (nI pv)), (6, .int (nI (q_it (q_rd T n ss t) k (ow ^^^ pv))))]) hx hb dX10_tip_137 hl (by decide) rfl (fun ls hl => ?_)
                        refine lv_iinc (v := nI (pv + 1)) (lv' := [(5, .int (nI (pv + 1))), (4, .int (nI b3)), (7, .int (nI 1)), (0, .ref ma), (1, .int (nI g0)), (3, .int v), (6, .int (nI (q_it (q_rd T n ss t) k (ow ^^^ pv))))]) hx hb dX10_tip_139 hl (k := 5) rfl (nI_add _ 1) (by decide) rfl (fun ls hl => ?_)
                        refine lv_goto (tgt := 38) hx hb dX10_tip_142 (by decide) ?_
                        have hl : lv_has ls 8 [(5, .int (nI (pv + 1))), (4, .int (q_oc (q_min (q_Pm T n ss t ow g0) (pv + 1)))), (7, .int (nI 1)), (0, .ref ma), (1, .int (nI g0)), (3, .int v), (6, .int (nI (q_it (q_rd T n ss t) k (ow ^^^ pv))))] := by rw [← show nI b3 = q_oc (q_min (q_Pm T n ss t ow g0) (pv + 1)) from by rw [q_mS2 hm9 (Nat.not_lt.mpr c_127)]; rfl]; exact hl
                        exact ih38 (pv + 1) g0 g (hw) (hg0) (hv) (by omega) (hg) (by omega) _ _ hP hD hS ls (lv_sub hl [3, 4, 5, 1, 0] rfl)
                      · refine lv_iload hx hb dX10_tip_130 (lv_at hl 5 rfl) ?_
                        refine lv_goto (tgt := 137) hx hb dX10_tip_132 (by decide) ?_
                        refine lv_istore (lv' := [(4, .int (nI pv)), (7, .int (nI 1)), (0, .ref ma), (1, .int (nI g0)), (3, .int v), (5, .int (nI pv)), (6, .int (nI (q_it (q_rd T n ss t) k (ow ^^^ pv))))]) hx hb dX10_tip_137 hl (by decide) rfl (fun ls hl => ?_)
                        refine lv_iinc (v := nI (pv + 1)) (lv' := [(5, .int (nI (pv + 1))), (4, .int (nI pv)), (7, .int (nI 1)), (0, .ref ma), (1, .int (nI g0)), (3, .int v), (6, .int (nI (q_it (q_rd T n ss t) k (ow ^^^ pv))))]) hx hb dX10_tip_139 hl (k := 5) rfl (nI_add _ 1) (by decide) rfl (fun ls hl => ?_)
                        refine lv_goto (tgt := 38) hx hb dX10_tip_142 (by decide) ?_
                        have hl : lv_has ls 8 [(5, .int (nI (pv + 1))), (4, .int (q_oc (q_min (q_Pm T n ss t ow g0) (pv + 1)))), (7, .int (nI 1)), (0, .ref ma), (1, .int (nI g0)), (3, .int v), (6, .int (nI (q_it (q_rd T n ss t) k (ow ^^^ pv))))] := by rw [← show nI pv = q_oc (q_min (q_Pm T n ss t ow g0) (pv + 1)) from by rw [q_mS1 hm9 (q_PmT (by omega) c_85 c_95) (by omega)]; rfl]; exact hl
                        exact ih38 (pv + 1) g0 g (hw) (hg0) (hv) (by omega) (hg) (by omega) _ _ hP hD hS ls (lv_sub hl [3, 4, 5, 1, 0] rfl)
          · refine lv_aload_n hx hb dX10_tip_67 rfl (lv_at hl 0 rfl) ?_
            refine q_get (ci := 10) (CC := RX10) (T := TX10) (N := 24) (v := .ref ml) hx hb hts hin10 hown hK hP 0 rfl rfl 23 (by decide) (hts (.fieldLink RX10 54 "DearAsManyModel" "leads" "[I") (by decide +kernel)) rfl rfl dX10_tip_68 ?_
            refine lv_iload hx hb dX10_tip_71 (lv_at hl 5 rfl) ?_
            refine q_aldv (v := nI (q_it (q_rd T n ss t) (k + 1) (ow ^^^ pv))) hx hb hK hP 5 0 rfl rfl (by omega) (by decide) dX10_tip_73 (hg _ hit) ?_
            refine lv_istore (lv' := [(6, .int (nI (q_it (q_rd T n ss t) (k + 1) (ow ^^^ pv)))), (0, .ref ma), (1, .int (nI g0)), (3, .int v), (4, .int (q_oc (q_min (q_Pm T n ss t ow g0) pv))), (5, .int (nI pv)), (7, .int (nI k))]) hx hb dX10_tip_74 hl (by decide) rfl (fun ls hl => ?_)
            refine lv_iinc (v := nI (k + 1)) (lv' := [(7, .int (nI (k + 1))), (6, .int (nI (q_it (q_rd T n ss t) (k + 1) (ow ^^^ pv)))), (0, .ref ma), (1, .int (nI g0)), (3, .int v), (4, .int (q_oc (q_min (q_Pm T n ss t ow g0) pv))), (5, .int (nI pv))]) hx hb dX10_tip_76 hl (k := 6) rfl (nI_add _ 1) (by decide) rfl (fun ls hl => ?_)
            refine lv_goto (tgt := 59) hx hb dX10_tip_79 (by decide) ?_
            exact ih59 (k + 1) (by first | assumption | exact Nat.zero_le _ | omega) (by first | assumption | exact Nat.zero_le _ | omega) (by omega) _ _ hP hD hS ls (lv_sub hl [2, 3, 4, 5, 6, 1, 0] rfl)
      refine lv_iload hx hb dX10_tip_38 (lv_at hl 4 rfl) ?_
      refine lv_aload_n hx hb dX10_tip_40 rfl (lv_at hl 0 rfl) ?_
      refine q_vi (As := []) (rest := [.int (nI pv)]) ⟨hx, hb, hml, hown, hts⟩ (c_X10_all l (D := D) (cI := cI) (cB := cB) (cZ := cZ) (ma := ma) (mt := mt) (mk := mk) (mw := mw) (mc := mc) (mh := mh) (mp := mp) (mb := mb) (me := me) (wp0 := wp0) (wo0 := wo0) (wb0 := wb0) (mr := mr) (ml := ml) (tn := tn) (n := n) (ow := ow) (uc := uc) (kc := kc) (sc := sc) (ss := ss) (at0 := at0) (rm0 := rm0) (ro0 := ro0) (rs0 := rs0) (by omega)) (cwV 0 hts gX10_tip_X10_all rfl rfl rfl (by decide +kernel) ⟨Nat.le_of_ble_eq_true rfl, Nat.le_of_ble_eq_true rfl⟩) hK hP [0] rfl 0 10 rfl rfl rfl rfl hl.1 rfl (Nat.le_of_ble_eq_true rfl) dX10_tip_41 ⟨Nat.zero_le _, Nat.zero_le _⟩ (fun r_41 hr_41 => ?_)
      have hr_41 : nI (2 ^ n - 1) = r_41 := (show r_41 = nI (2 ^ n - 1) from hr_41).symm
      subst hr_41
      refine q_ngt (tgt := 145) hx hb dX10_tip_44 (by decide) (by omega) (by omega) (fun c_44 => ?_) (fun c_44 => ?_)
      · rcases hm8 : q_tpo T n ss t ow g0 with _ | b4
        · have hl : lv_has ls 8 [(0, .ref ma), (1, .int (nI g0)), (3, .int v), (4, .int (-4 : Int32)), (5, .int (nI pv))] := by rw [← show q_oc (q_min (q_Pm T n ss t ow g0) pv) = (-4 : Int32) from by rw [show pv = 2 ^ n from by omega, q_PmE, hm8]; rfl]; exact hl
          refine lv_iload hx hb dX10_tip_145 (lv_at hl 3 rfl) ?_
          refine lv_bipush (v := (-4 : Int32)) hx hb dX10_tip_147 (by decide) ?_
          refine lv_icmp_eq (x := (-4 : Int32)) (y := (-4 : Int32)) (tgt := 157) hx hb dX10_tip_149 (by decide) (fun c_149 => ?_) (fun c_149 => ?_)
          · refine lv_iload hx hb dX10_tip_157 (lv_at hl 3 rfl) ?_
            refine lv_goto (tgt := 167) hx hb dX10_tip_159 (by decide) ?_
            exact q_mret (S := (Nat → Int32)) (v := (-4 : Int32)) (w1 := fun u => [(ma, .inr (10, [.ref mt, .int (nI tn), .int (nI n), .ref mk, .ref mw, .ref mc, .ref mh, .ref mp, .int (nI ow), .int ss, .int (nI uc), .ref mb, .int (nI kc), .ref me, .int (nI sc), .ref wp0, .ref wo0, .ref wb0, .int at0, .int rm0, .int ro0, .int rs0, .ref mr, .ref ml])), (mk, .inl (cI, 7, .inl mK)), (mw, .inl (cI, 7, .inl mW)), (mc, .inl (cI, 7, .inl mC)), (mh, .inl (cI, 7, .inl mH)), (ml, .inl (cI, 128, .inl u))]) g hx hb hr hlocks (rfl) hP hS dX10_tip_167 (by exact ⟨by rw [A_tipN hw hm8 hv], trivial⟩)
          · exact absurd c_149 ((fun z => z rfl))
        · have hl : lv_has ls 8 [(0, .ref ma), (1, .int (nI g0)), (3, .int v), (4, .int (nI b4)), (5, .int (nI pv))] := by rw [← show q_oc (q_min (q_Pm T n ss t ow g0) pv) = nI b4 from by rw [show pv = 2 ^ n from by omega, q_PmE, hm8]; rfl]; exact hl
          refine lv_iload hx hb dX10_tip_145 (lv_at hl 3 rfl) ?_
          refine lv_bipush (v := (-4 : Int32)) hx hb dX10_tip_147 (by decide) ?_
          refine lv_icmp_eq (x := nI b4) (y := (-4 : Int32)) (tgt := 157) hx hb dX10_tip_149 (by decide) (fun c_149 => ?_) (fun c_149 => ?_)
          · exact absurd c_149 ((q_m4ne (by have := q_tpo_lt hm8; omega)))
          · refine lv_iload_n hx hb dX10_tip_152 rfl (lv_at hl 2 rfl) ?_
            refine lv_iconst (v := nI 1) hx hb dX10_tip_153 (by decide) ?_
            refine lv_icmp_ne (x := v) (y := nI 1) (tgt := 162) hx hb dX10_tip_154 (by decide) (fun c_154 => ?_) (fun c_154 => ?_)
            · refine lv_iload hx hb dX10_tip_162 (lv_at hl 3 rfl) ?_
              refine q_si (As := [.int (nI b4)]) (rest := []) ⟨hx, hb, hml, hown, hts⟩ (c_X10_bits l (D := D) (cI := cI) (cB := cB) (cZ := cZ) (S := b4) (by have := q_tpo_lt hm8; omega)) (va_cwS 1 hts gX10_tip_X10_bits rfl rfl rfl (by decide +kernel) ⟨Nat.le_of_ble_eq_true rfl, Nat.le_of_ble_eq_true rfl⟩) hK hP [] rfl rfl hl.1 rfl (Nat.le_of_ble_eq_true rfl) dX10_tip_164 ⟨Nat.zero_le _, Nat.zero_le _⟩ (fun r_164 hr_164 => ?_)
              have hr_164 : nI (pop8 b4) = r_164 := (show r_164 = nI (pop8 b4) from hr_164).symm
              subst hr_164
              exact q_mret (S := (Nat → Int32)) (v := nI (pop8 b4)) (w1 := fun u => [(ma, .inr (10, [.ref mt, .int (nI tn), .int (nI n), .ref mk, .ref mw, .ref mc, .ref mh, .ref mp, .int (nI ow), .int ss, .int (nI uc), .ref mb, .int (nI kc), .ref me, .int (nI sc), .ref wp0, .ref wo0, .ref wb0, .int at0, .int rm0, .int ro0, .int rs0, .ref mr, .ref ml])), (mk, .inl (cI, 7, .inl mK)), (mw, .inl (cI, 7, .inl mW)), (mc, .inl (cI, 7, .inl mC)), (mh, .inl (cI, 7, .inl mH)), (ml, .inl (cI, 128, .inl u))]) g hx hb hr hlocks (rfl) hP hS dX10_tip_167 (by exact ⟨by rw [A_tip0 hw hm8 hv c_154], trivial⟩)
            · refine lv_iload hx hb dX10_tip_157 (lv_at hl 3 rfl) ?_
              refine lv_goto (tgt := 167) hx hb dX10_tip_159 (by decide) ?_
              exact q_mret (S := (Nat → Int32)) (v := nI b4) (w1 := fun u => [(ma, .inr (10, [.ref mt, .int (nI tn), .int (nI n), .ref mk, .ref mw, .ref mc, .ref mh, .ref mp, .int (nI ow), .int ss, .int (nI uc), .ref mb, .int (nI kc), .ref me, .int (nI sc), .ref wp0, .ref wo0, .ref wb0, .int at0, .int rm0, .int ro0, .int rs0, .ref mr, .ref ml])), (mk, .inl (cI, 7, .inl mK)), (mw, .inl (cI, 7, .inl mW)), (mc, .inl (cI, 7, .inl mC)), (mh, .inl (cI, 7, .inl mH)), (ml, .inl (cI, 128, .inl u))]) g hx hb hr hlocks (rfl) hP hS dX10_tip_167 (by exact ⟨by rw [A_tip1 hw hm8 c_154], trivial⟩)
      · refine lv_aload_n hx hb dX10_tip_47 rfl (lv_at hl 0 rfl) ?_
        refine q_get (ci := 10) (CC := RX10) (T := TX10) (N := 24) (v := .int (nI ow)) hx hb hts hin10 hown hK hP 0 rfl rfl 8 (by decide) (hts (.fieldLink RX10 107 "DearAsManyModel" "owners" "I") (by decide +kernel)) rfl rfl dX10_tip_48 ?_
        refine lv_iload hx hb dX10_tip_51 (lv_at hl 4 rfl) ?_
        refine q_ixor (v := nI (ow ^^^ pv)) hx hb dX10_tip_53 (q_xor _ _) ?_
        refine lv_istore (lv' := [(6, .int (nI (ow ^^^ pv))), (0, .ref ma), (1, .int (nI g0)), (3, .int v), (4, .int (q_oc (q_min (q_Pm T n ss t ow g0) pv))), (5, .int (nI pv))]) hx hb dX10_tip_54 hl (by decide) rfl (fun ls hl => ?_)
        refine lv_iconst (v := nI 0) hx hb dX10_tip_56 (by decide) ?_
        refine lv_istore (lv' := [(7, .int (nI 0)), (6, .int (nI (ow ^^^ pv))), (0, .ref ma), (1, .int (nI g0)), (3, .int v), (4, .int (q_oc (q_min (q_Pm T n ss t ow g0) pv))), (5, .int (nI pv))]) hx hb dX10_tip_57 hl (by decide) rfl (fun ls hl => ?_)
        exact L59 _ 0 (by first | assumption | exact Nat.zero_le _ | omega) (by first | assumption | exact Nat.zero_le _ | omega) (Nat.lt_succ_self _) _ _ hP hD hS ls (lv_sub hl [2, 3, 4, 5, 6, 1, 0] rfl)
  rcases hw : q_ix (2 ^ n) w with _ | g0
  · refine lv_iload_n hx hb dX10_tip_0 rfl (lv_at hl 1 rfl) ?_
    refine lv_i2l (v := w.toInt64) hx hb dX10_tip_1 (rfl) ?_
    refine lv_lconst (v := (0 : Int64)) hx hb dX10_tip_2 (by decide) ?_
    refine lv_aload_n hx hb dX10_tip_3 rfl (lv_at hl 0 rfl) ?_
    refine q_vi (As := []) (rest := [.long (0 : Int64), .long w.toInt64]) ⟨hx, hb, hml, hown, hts⟩ (c_X10_all l (D := D) (cI := cI) (cB := cB) (cZ := cZ) (ma := ma) (mt := mt) (mk := mk) (mw := mw) (mc := mc) (mh := mh) (mp := mp) (mb := mb) (me := me) (wp0 := wp0) (wo0 := wo0) (wb0 := wb0) (mr := mr) (ml := ml) (tn := tn) (n := n) (ow := ow) (uc := uc) (kc := kc) (sc := sc) (ss := ss) (at0 := at0) (rm0 := rm0) (ro0 := ro0) (rs0 := rs0) (by omega)) (cwV 0 hts gX10_tip_X10_all rfl rfl rfl (by decide +kernel) ⟨Nat.le_of_ble_eq_true rfl, Nat.le_of_ble_eq_true rfl⟩) hK hP [0] rfl 0 10 rfl rfl rfl rfl hl.1 rfl (Nat.le_of_ble_eq_true rfl) dX10_tip_4 ⟨Nat.zero_le _, Nat.zero_le _⟩ (fun r_4 hr_4 => ?_)
    have hr_4 : nI (2 ^ n - 1) = r_4 := (show r_4 = nI (2 ^ n - 1) from hr_4).symm
    subst hr_4
    refine lv_i2l (v := (nI (2 ^ n - 1)).toInt64) hx hb dX10_tip_7 (rfl) ?_
    refine q_si (As := [.long w.toInt64, .long (0 : Int64), .long ((nI (2 ^ n - 1)).toInt64)]) (rest := []) ⟨hx, hb, hml, hown, hts⟩ (c_X10_in l (D := D) (cI := cI) (cB := cB) (cZ := cZ) (a1 := w.toInt64) (b1 := (0 : Int64)) (c1 := (nI (2 ^ n - 1)).toInt64) ) (va_cwS 3 hts gX10_tip_X10_in rfl rfl rfl (by decide +kernel) ⟨Nat.le_of_ble_eq_true rfl, Nat.le_of_ble_eq_true rfl⟩) hK hP [] rfl rfl hl.1 rfl (Nat.le_of_ble_eq_true rfl) dX10_tip_8 ⟨Nat.zero_le _, Nat.zero_le _⟩ (fun r_8 hr_8 => ?_)
    have hr_8 : bI false = r_8 := (Eq.trans (show r_8 = bI (q_inb w.toInt64 (0 : Int64) ((nI (2 ^ n - 1)).toInt64)) from hr_8) (q_in0 (lo := 0) (hi := 2 ^ n - 1) (N := 2 ^ n) rfl (q_lk0 (by omega)) (by omega) hw (by omega))).symm
    subst hr_8
    refine q_beq (tgt := 24) hx hb dX10_tip_11 (by decide) (fun c_11 => ?_) (fun c_11 => ?_)
    · refine lv_iconst (v := (-1 : Int32)) hx hb dX10_tip_24 (by decide) ?_
      exact q_mret (S := (Nat → Int32)) (v := (-1 : Int32)) (w1 := fun u => [(ma, .inr (10, [.ref mt, .int (nI tn), .int (nI n), .ref mk, .ref mw, .ref mc, .ref mh, .ref mp, .int (nI ow), .int ss, .int (nI uc), .ref mb, .int (nI kc), .ref me, .int (nI sc), .ref wp0, .ref wo0, .ref wb0, .int at0, .int rm0, .int ro0, .int rs0, .ref mr, .ref ml])), (mk, .inl (cI, 7, .inl mK)), (mw, .inl (cI, 7, .inl mW)), (mc, .inl (cI, 7, .inl mC)), (mh, .inl (cI, 7, .inl mH)), (ml, .inl (cI, 128, .inl u))]) mL hx hb hr hlocks (rfl) hP hS dX10_tip_25 (by exact ⟨by simp only [A_tip, hw], trivial⟩)
    · exact absurd c_11 (by decide)
  · have hwe := q_ixS hw
    have hl : lv_has ls 8 [(0, .ref ma), (1, .int (nI g0)), (2, .int (bI t)), (3, .int v)] := by rw [← show w = nI g0 from hwe.1]; exact hl
    refine lv_iload_n hx hb dX10_tip_0 rfl (lv_at hl 1 rfl) ?_
    refine lv_i2l (v := (nI g0).toInt64) hx hb dX10_tip_1 (rfl) ?_
    refine lv_lconst (v := (0 : Int64)) hx hb dX10_tip_2 (by decide) ?_
    refine lv_aload_n hx hb dX10_tip_3 rfl (lv_at hl 0 rfl) ?_
    refine q_vi (As := []) (rest := [.long (0 : Int64), .long ((nI g0).toInt64)]) ⟨hx, hb, hml, hown, hts⟩ (c_X10_all l (D := D) (cI := cI) (cB := cB) (cZ := cZ) (ma := ma) (mt := mt) (mk := mk) (mw := mw) (mc := mc) (mh := mh) (mp := mp) (mb := mb) (me := me) (wp0 := wp0) (wo0 := wo0) (wb0 := wb0) (mr := mr) (ml := ml) (tn := tn) (n := n) (ow := ow) (uc := uc) (kc := kc) (sc := sc) (ss := ss) (at0 := at0) (rm0 := rm0) (ro0 := ro0) (rs0 := rs0) (by omega)) (cwV 0 hts gX10_tip_X10_all rfl rfl rfl (by decide +kernel) ⟨Nat.le_of_ble_eq_true rfl, Nat.le_of_ble_eq_true rfl⟩) hK hP [0] rfl 0 10 rfl rfl rfl rfl hl.1 rfl (Nat.le_of_ble_eq_true rfl) dX10_tip_4 ⟨Nat.zero_le _, Nat.zero_le _⟩ (fun r_4 hr_4 => ?_)
    have hr_4 : nI (2 ^ n - 1) = r_4 := (show r_4 = nI (2 ^ n - 1) from hr_4).symm
    subst hr_4
    refine lv_i2l (v := (nI (2 ^ n - 1)).toInt64) hx hb dX10_tip_7 (rfl) ?_
    refine q_si (As := [.long ((nI g0).toInt64), .long (0 : Int64), .long ((nI (2 ^ n - 1)).toInt64)]) (rest := []) ⟨hx, hb, hml, hown, hts⟩ (c_X10_in l (D := D) (cI := cI) (cB := cB) (cZ := cZ) (a1 := (nI g0).toInt64) (b1 := (0 : Int64)) (c1 := (nI (2 ^ n - 1)).toInt64) ) (va_cwS 3 hts gX10_tip_X10_in rfl rfl rfl (by decide +kernel) ⟨Nat.le_of_ble_eq_true rfl, Nat.le_of_ble_eq_true rfl⟩) hK hP [] rfl rfl hl.1 rfl (Nat.le_of_ble_eq_true rfl) dX10_tip_8 ⟨Nat.zero_le _, Nat.zero_le _⟩ (fun r_8 hr_8 => ?_)
    have hr_8 : bI true = r_8 := (Eq.trans (show r_8 = bI (q_inb ((nI g0).toInt64) (0 : Int64) ((nI (2 ^ n - 1)).toInt64)) from hr_8) (q_in1 (lo := 0) (hi := 2 ^ n - 1) rfl (q_lk0 (by omega)) (by omega) (by omega) (by omega))).symm
    subst hr_8
    refine q_beq (tgt := 24) hx hb dX10_tip_11 (by decide) (fun c_11 => ?_) (fun c_11 => ?_)
    · exact absurd c_11 (by decide)
    · refine lv_iload_n hx hb dX10_tip_14 rfl (lv_at hl 3 rfl) ?_
      refine lv_i2l (v := v.toInt64) hx hb dX10_tip_15 (rfl) ?_
      refine lv_lconst (v := (0 : Int64)) hx hb dX10_tip_16 (by decide) ?_
      refine lv_lconst (v := (1 : Int64)) hx hb dX10_tip_17 (by decide) ?_
      refine q_si (As := [.long v.toInt64, .long (0 : Int64), .long (1 : Int64)]) (rest := []) ⟨hx, hb, hml, hown, hts⟩ (c_X10_in l (D := D) (cI := cI) (cB := cB) (cZ := cZ) (a1 := v.toInt64) (b1 := (0 : Int64)) (c1 := (1 : Int64)) ) (va_cwS 3 hts gX10_tip_X10_in rfl rfl rfl (by decide +kernel) ⟨Nat.le_of_ble_eq_true rfl, Nat.le_of_ble_eq_true rfl⟩) hK hP [] rfl rfl hl.1 rfl (Nat.le_of_ble_eq_true rfl) dX10_tip_18 ⟨Nat.zero_le _, Nat.zero_le _⟩ (fun r_18 hr_18 => ?_)
      have hr_18 : bI (q_eit v) = r_18 := (Eq.trans (show r_18 = bI (q_inb v.toInt64 (0 : Int64) (1 : Int64)) from hr_18) (q_inEit _)).symm
      subst hr_18
      refine q_bne (tgt := 26) hx hb dX10_tip_21 (by decide) (fun c_21 => ?_) (fun c_21 => ?_)
      · refine lv_aload_n hx hb dX10_tip_26 rfl (lv_at hl 0 rfl) ?_
        refine lv_iload_n hx hb dX10_tip_27 rfl (lv_at hl 2 rfl) ?_
        refine q_vmv (S := (Nat → Int32)) (w1 := fun u => [(ma, .inr (10, [.ref mt, .int (nI tn), .int (nI n), .ref mk, .ref mw, .ref mc, .ref mh, .ref mp, .int (nI ow), .int ss, .int (nI uc), .ref mb, .int (nI kc), .ref me, .int (nI sc), .ref wp0, .ref wo0, .ref wb0, .int at0, .int rm0, .int ro0, .int rs0, .ref mr, .ref ml])), (mk, .inl (cI, 7, .inl mK)), (mw, .inl (cI, 7, .inl mW)), (mc, .inl (cI, 7, .inl mC)), (mh, .inl (cI, 7, .inl mH)), (ml, .inl (cI, 128, .inl u))]) (w2 := fun u => [(ma, .inr (10, [.ref mt, .int (nI tn), .int (nI n), .ref mk, .ref mw, .ref mc, .ref mh, .ref mp, .int (nI ow), .int ss, .int (nI uc), .ref mb, .int (nI kc), .ref me, .int (nI sc), .ref wp0, .ref wo0, .ref wb0, .int at0, .int rm0, .int ro0, .int rs0, .ref mr, .ref ml])), (mk, .inl (cI, 7, .inl mK)), (mw, .inl (cI, 7, .inl mW)), (mc, .inl (cI, 7, .inl mC)), (mh, .inl (cI, 7, .inl mH)), (ml, .inl (cI, 128, .inl u))]) (As := [.int (bI t)]) (rest := []) ⟨hx, hb, hml, hown, hts⟩ (c_X10_tells l (D := D) (cI := cI) (cB := cB) (cZ := cZ) (ma := ma) (mt := mt) (mk := mk) (mw := mw) (mc := mc) (mh := mh) (mp := mp) (mb := mb) (me := me) (wp0 := wp0) (wo0 := wo0) (wb0 := wb0) (mr := mr) (ml := ml) (tn := tn) (n := n) (ow := ow) (uc := uc) (kc := kc) (sc := sc) (ss := ss) (at0 := at0) (rm0 := rm0) (ro0 := ro0) (rs0 := rs0) (mK := mK) (mW := mW) (mC := mC) (mH := mH) (T := T) (t := t) (mL := mL) (by first | assumption | exact Nat.zero_le _ | omega) (by first | assumption | exact Nat.zero_le _ | omega) (by first | assumption | exact Nat.zero_le _ | omega)) (cwV 1 hts gX10_tip_X10_tells rfl rfl rfl (by decide +kernel) ⟨Nat.le_of_ble_eq_true rfl, Nat.le_of_ble_eq_true rfl⟩) hK hP hD hS hA [0, 1, 2, 3, 4, 5] rfl (by decide) 0 10 rfl rfl rfl rfl hl.1 rfl (Nat.le_of_ble_eq_true rfl) dX10_tip_28 ⟨Nat.zero_le _, Nat.zero_le _⟩ (fun _ => rfl) (fun _ => rfl) (fun _ => rfl) (fun w1 H locs hr_28 hP hD hS => ?_)
        have hP : va_P D vwCl [(ma, .inr (10, [.ref mt, .int (nI tn), .int (nI n), .ref mk, .ref mw, .ref mc, .ref mh, .ref mp, .int (nI ow), .int ss, .int (nI uc), .ref mb, .int (nI kc), .ref me, .int (nI sc), .ref wp0, .ref wo0, .ref wb0, .int at0, .int rm0, .int ro0, .int rs0, .ref mr, .ref ml])), (mk, .inl (cI, 7, .inl mK)), (mw, .inl (cI, 7, .inl mW)), (mc, .inl (cI, 7, .inl mC)), (mh, .inl (cI, 7, .inl mH)), (ml, .inl (cI, 128, .inl w1))] H := hP
        have hD : va_D A [(ma, .inr (10, [.ref mt, .int (nI tn), .int (nI n), .ref mk, .ref mw, .ref mc, .ref mh, .ref mp, .int (nI ow), .int ss, .int (nI uc), .ref mb, .int (nI kc), .ref me, .int (nI sc), .ref wp0, .ref wo0, .ref wb0, .int at0, .int rm0, .int ro0, .int rs0, .ref mr, .ref ml])), (mk, .inl (cI, 7, .inl mK)), (mw, .inl (cI, 7, .inl mW)), (mc, .inl (cI, 7, .inl mC)), (mh, .inl (cI, 7, .inl mH)), (ml, .inl (cI, 128, .inl w1))] := hD
        try dsimp only at hr_28
        refine lv_bipush (v := (-4 : Int32)) hx hb dX10_tip_31 (by decide) ?_
        refine lv_istore (lv' := [(4, .int (-4 : Int32)), (0, .ref ma), (1, .int (nI g0)), (2, .int (bI t)), (3, .int v)]) hx hb dX10_tip_33 hl (by decide) rfl (fun ls hl => ?_)
        refine lv_iconst (v := nI 0) hx hb dX10_tip_35 (by decide) ?_
        refine lv_istore (lv' := [(5, .int (nI 0)), (4, .int (-4 : Int32)), (0, .ref ma), (1, .int (nI g0)), (2, .int (bI t)), (3, .int v)]) hx hb dX10_tip_36 hl (by decide) rfl (fun ls hl => ?_)
        exact L38 _ 0 g0 w1 (hw) (hwe.2) (c_21) (Nat.zero_le _) (hr_28) (Nat.lt_succ_self _) _ _ hP hD hS ls (lv_sub hl [2, 3, 5, 1, 0] rfl)
      · refine lv_iconst (v := (-1 : Int32)) hx hb dX10_tip_24 (by decide) ?_
        exact q_mret (S := (Nat → Int32)) (v := (-1 : Int32)) (w1 := fun u => [(ma, .inr (10, [.ref mt, .int (nI tn), .int (nI n), .ref mk, .ref mw, .ref mc, .ref mh, .ref mp, .int (nI ow), .int ss, .int (nI uc), .ref mb, .int (nI kc), .ref me, .int (nI sc), .ref wp0, .ref wo0, .ref wb0, .int at0, .int rm0, .int ro0, .int rs0, .ref mr, .ref ml])), (mk, .inl (cI, 7, .inl mK)), (mw, .inl (cI, 7, .inl mW)), (mc, .inl (cI, 7, .inl mC)), (mh, .inl (cI, 7, .inl mH)), (ml, .inl (cI, 128, .inl u))]) mL hx hb hr hlocks (rfl) hP hS dX10_tip_25 (by exact ⟨by rw [A_tipX hw c_21], trivial⟩)
