set_option maxHeartbeats 4000000 in
set_option maxRecDepth 100000 in
theorem c_X10_place (l : Launch) {D : va_G} {cI cB cZ : ClassId} {ma : Nat} {mt : Nat} {mk : Nat} {mw : Nat} {mc : Nat} {mh : Nat} {mp : Nat} {mb : Nat} {me : Nat} {wp0 : Nat} {wo0 : Nat} {wb0 : Nat} {mr : Nat} {ml : Nat} {tn : Nat} {n : Nat} {ow : Nat} {uc : Nat} {kc : Nat} {sc : Nat} {ss : Int32} {at0 : Int32} {rm0 : Int32} {ro0 : Int32} {rs0 : Int32} {mK : Nat → Int32} {mW : Nat → Int32} {mC : Nat → Int32} {mH : Nat → Int32} {T : Nat → Nat → Nat} {w : Int32} {v : Int32} (hMT : q_MT T n mK mW mC mH) (hB : q_Bd T n) (hn1 : 1 ≤ n) (how : ow < 2 ^ n) : Met l yX10_place wsX10_place ({ frames := 5, cells := 0, slots := 0, locals := 112 } : Room) (va_Pc [.ref ma, .int w, .int v] (q_B D (q_tys cI cB cZ) [(ma, .inr (10, [.ref mt, .int (nI tn), .int (nI n), .ref mk, .ref mw, .ref mc, .ref mh, .ref mp, .int (nI ow), .int ss, .int (nI uc), .ref mb, .int (nI kc), .ref me, .int (nI sc), .ref wp0, .ref wo0, .ref wb0, .int at0, .int rm0, .int ro0, .int rs0, .ref mr, .ref ml])), (mk, .inl (cI, 7, .inl mK)), (mw, .inl (cI, 7, .inl mW)), (mc, .inl (cI, 7, .inl mC)), (mh, .inl (cI, 7, .inl mH))])) (vp_Si (fun r => r = A_place T n ss ow w v)) 0 0 (fun _ => False) := by
  refine Met.ofW (cc := cX10_place) (maxL := 11) (ret := (some .int)) (by decide) rfl ?_
  intro p e s m args below meth c s₁ B hml hv
  obtain ⟨rfl, hP, hK⟩ := hv
  have hx := B.exec
  have hb := B.bytes
  have hr := B.returns
  have hts := atoms_spec (ws := wsX10_place) B.pre
  have hown : s.vm.findClass RX10 = some m.cls := findClass_of_methodNamed B.named
  have hlocks := B.notSynchronized
  have hin10 : ∀ w ∈ u_ws RX10 TX10 24, w ∈ wsX10_place := by decide +kernel
  have hP : va_P D vwCl [(ma, .inr (10, [.ref mt, .int (nI tn), .int (nI n), .ref mk, .ref mw, .ref mc, .ref mh, .ref mp, .int (nI ow), .int ss, .int (nI uc), .ref mb, .int (nI kc), .ref me, .int (nI sc), .ref wp0, .ref wo0, .ref wb0, .int at0, .int rm0, .int ro0, .int rs0, .ref mr, .ref ml])), (mk, .inl (cI, 7, .inl mK)), (mw, .inl (cI, 7, .inl mW)), (mc, .inl (cI, 7, .inl mC)), (mh, .inl (cI, 7, .inl mH))] s.heap := hP
  have hl := lv_entry ([.ref ma, .int w, .int v]) (n := 11) (Nat.le_of_ble_eq_true rfl)
  rw [lg_entry_eq]
  generalize (lg_sl ([.ref ma, .int w, .int v]) ++ List.replicate (11 - (lg_sl ([.ref ma, .int w, .int v])).length) Slot.unset).toArray = ls at hl ⊢
  have hl : lv_has ls 11 [(0, .ref ma), (1, .int w), (2, .int v)] := hl
  have hn7 := hB.1
  have hp2 : 2 ^ n ≤ 128 := q_p2 hB.1
  have ho128 := q_S128 hB how
  have L59 : ∀ (fuel : Nat) (k : Nat) (i : Nat) (hw : q_ix n w = some i) (hi : i < n) (hv : q_eit v = true) (hno : ow.testBit i = false) (hk : k ≤ n - pop8 ow - 1 + 1) (hf : n + 1 - k < fuel) (ls : Array Slot) (hl : lv_has ls 11 [(0, .ref ma), (1, .int (nI i)), (2, .int v), (3, .int (nI (n - pop8 ow - 1))), (4, .int ((q_bb (q_gain T n ss i ow) k).1)), (5, .int ((q_bb (q_gain T n ss i ow) k).2)), (6, .int (nI k))]), W p l e (headSpec wsX10_place ({ frames := 5, cells := 0, slots := 0, locals := 112 } : Room)).room s m ([.ref ma, .int w, .int v] : List Value).toArray below meth c s.heap [] 0 0 (MQ below (vp_Si (fun r => r = A_place T n ss ow w v)) ([.ref ma, .int w, .int v] : List Value).toArray s 0 0 (fun _ => False)) (F0 m 59 ls []) := by
    intro fuel
    induction fuel with
    | zero =>
      intro k i hw hi hv hno hk hf ls hl
      exact absurd hf (Nat.not_lt_zero _)
    | succ fuel ih59 =>
      intro k i hw hi hv hno hk hf ls hl
      have L80 : ∀ (fuel : Nat) (j : Nat) (hj : j ≤ n + 1) (hk2 : k ≤ n - pop8 ow - 1) (hf : n + 1 - j < fuel) (ls : Array Slot) (hl : lv_has ls 11 [(0, .ref ma), (1, .int (nI i)), (2, .int v), (3, .int (nI (n - pop8 ow - 1))), (4, .int ((q_bb (q_gain T n ss i ow) k).1)), (5, .int ((q_bb (q_gain T n ss i ow) k).2)), (6, .int (nI k)), (7, .int (nI ((q_gb T n ss i k ow j).1))), (8, .int (nI ((q_gb T n ss i k ow j).2.1))), (9, .int (nI ((q_gb T n ss i k ow j).2.2))), (10, .int (nI j))]), W p l e (headSpec wsX10_place ({ frames := 5, cells := 0, slots := 0, locals := 112 } : Room)).room s m ([.ref ma, .int w, .int v] : List Value).toArray below meth c s.heap [] 0 0 (MQ below (vp_Si (fun r => r = A_place T n ss ow w v)) ([.ref ma, .int w, .int v] : List Value).toArray s 0 0 (fun _ => False)) (F0 m 80 ls []) := by
        intro fuel
        induction fuel with
        | zero =>
          intro j hj hk2 hf ls hl
          exact absurd hf (Nat.not_lt_zero _)
        | succ fuel ih80 =>
          intro j hj hk2 hf ls hl
          have L122 : ∀ (hjn : j < n + 1) (ls : Array Slot) (hl : lv_has ls 11 [(0, .ref ma), (1, .int (nI i)), (2, .int v), (3, .int (nI (n - pop8 ow - 1))), (4, .int ((q_bb (q_gain T n ss i ow) k).1)), (5, .int ((q_bb (q_gain T n ss i ow) k).2)), (6, .int (nI k)), (7, .int (nI ((q_g1 T n i k (q_gb T n ss i k ow j)).1))), (8, .int (nI ((q_g1 T n i k (q_gb T n ss i k ow j)).2.1))), (9, .int (nI ((q_g1 T n i k (q_gb T n ss i k ow j)).2.2))), (10, .int (nI j))]), W p l e (headSpec wsX10_place ({ frames := 5, cells := 0, slots := 0, locals := 112 } : Room)).room s m ([.ref ma, .int w, .int v] : List Value).toArray below meth c s.heap [] 0 0 (MQ below (vp_Si (fun r => r = A_place T n ss ow w v)) ([.ref ma, .int w, .int v] : List Value).toArray s 0 0 (fun _ => False)) (F0 m 122 ls []) := by
            intro hjn ls hl
            have hs := q_gb_lt (T := T) (se := ss) (k := k) hi how j
            have hs1 := q_g1_lt (T := T) (k := k) hi hs
            refine lv_iload hx hb dX10_place_122 (lv_at hl 10 rfl) ?_
            refine lv_aload_n hx hb dX10_place_124 rfl (lv_at hl 0 rfl) ?_
            refine q_get (ci := 10) (CC := RX10) (T := TX10) (N := 24) (v := .int (nI n)) hx hb hts hin10 hown hK hP 0 rfl rfl 2 (by decide) (hts (.fieldLink RX10 13 "DearAsManyModel" "many" "I") (by decide +kernel)) rfl rfl dX10_place_125 ?_
            refine q_nge (tgt := 176) hx hb dX10_place_128 (by decide) (by omega) (by omega) (fun c_128 => ?_) (fun c_128 => ?_)
            · refine lv_iinc (v := nI (j + 1)) (lv' := [(10, .int (nI (j + 1))), (0, .ref ma), (1, .int (nI i)), (2, .int v), (3, .int (nI (n - pop8 ow - 1))), (4, .int ((q_bb (q_gain T n ss i ow) k).1)), (5, .int ((q_bb (q_gain T n ss i ow) k).2)), (6, .int (nI k)), (7, .int (nI ((q_g1 T n i k (q_gb T n ss i k ow j)).1))), (8, .int (nI ((q_g1 T n i k (q_gb T n ss i k ow j)).2.1))), (9, .int (nI ((q_g1 T n i k (q_gb T n ss i k ow j)).2.2)))]) hx hb dX10_place_176 hl (k := 10) rfl (nI_add _ 1) (by decide) rfl (fun ls hl => ?_)
              refine lv_goto (tgt := 80) hx hb dX10_place_179 (by decide) ?_
              have hl : lv_has ls 11 [(10, .int (nI (j + 1))), (0, .ref ma), (1, .int (nI i)), (2, .int v), (3, .int (nI (n - pop8 ow - 1))), (4, .int ((q_bb (q_gain T n ss i ow) k).1)), (5, .int ((q_bb (q_gain T n ss i ow) k).2)), (6, .int (nI k)), (7, .int (nI ((q_gb T n ss i k ow (j + 1)).1))), (8, .int (nI ((q_g1 T n i k (q_gb T n ss i k ow j)).2.1))), (9, .int (nI ((q_g1 T n i k (q_gb T n ss i k ow j)).2.2)))] := by rw [← show nI ((q_g1 T n i k (q_gb T n ss i k ow j)).1) = nI ((q_gb T n ss i k ow (j + 1)).1) from by show nI _ = nI (q_g2 T n ss i ow j (q_g1 T n i k (q_gb T n ss i k ow j))).1; rw [q_g2F (fun z => absurd z.1 (Nat.not_lt.mpr c_128))]]; exact hl
              have hl : lv_has ls 11 [(10, .int (nI (j + 1))), (0, .ref ma), (1, .int (nI i)), (2, .int v), (3, .int (nI (n - pop8 ow - 1))), (4, .int ((q_bb (q_gain T n ss i ow) k).1)), (5, .int ((q_bb (q_gain T n ss i ow) k).2)), (6, .int (nI k)), (7, .int (nI ((q_gb T n ss i k ow (j + 1)).1))), (8, .int (nI ((q_gb T n ss i k ow (j + 1)).2.1))), (9, .int (nI ((q_g1 T n i k (q_gb T n ss i k ow j)).2.2)))] := by rw [← show nI ((q_g1 T n i k (q_gb T n ss i k ow j)).2.1) = nI ((q_gb T n ss i k ow (j + 1)).2.1) from by show nI _ = nI (q_g2 T n ss i ow j (q_g1 T n i k (q_gb T n ss i k ow j))).2.1; rw [q_g2F (fun z => absurd z.1 (Nat.not_lt.mpr c_128))]]; exact hl
              have hl : lv_has ls 11 [(10, .int (nI (j + 1))), (0, .ref ma), (1, .int (nI i)), (2, .int v), (3, .int (nI (n - pop8 ow - 1))), (4, .int ((q_bb (q_gain T n ss i ow) k).1)), (5, .int ((q_bb (q_gain T n ss i ow) k).2)), (6, .int (nI k)), (7, .int (nI ((q_gb T n ss i k ow (j + 1)).1))), (8, .int (nI ((q_gb T n ss i k ow (j + 1)).2.1))), (9, .int (nI ((q_gb T n ss i k ow (j + 1)).2.2)))] := by rw [← show nI ((q_g1 T n i k (q_gb T n ss i k ow j)).2.2) = nI ((q_gb T n ss i k ow (j + 1)).2.2) from by show nI _ = nI (q_g2 T n ss i ow j (q_g1 T n i k (q_gb T n ss i k ow j))).2.2; rw [q_g2F (fun z => absurd z.1 (Nat.not_lt.mpr c_128))]]; exact hl
              exact ih80 (j + 1) (by first | assumption | exact Nat.zero_le _ | omega) (by first | assumption | exact Nat.zero_le _ | omega) (by omega) ls (lv_sub hl [1, 2, 3, 4, 5, 6, 7, 8, 9, 10, 0] rfl)
            · refine lv_iload hx hb dX10_place_131 (lv_at hl 10 rfl) ?_
              refine lv_iload_n hx hb dX10_place_133 rfl (lv_at hl 1 rfl) ?_
              refine q_neq (tgt := 176) hx hb dX10_place_134 (by decide) (by omega) (by omega) (fun c_134 => ?_) (fun c_134 => ?_)
              · refine lv_iinc (v := nI (j + 1)) (lv' := [(10, .int (nI (j + 1))), (0, .ref ma), (1, .int (nI i)), (2, .int v), (3, .int (nI (n - pop8 ow - 1))), (4, .int ((q_bb (q_gain T n ss i ow) k).1)), (5, .int ((q_bb (q_gain T n ss i ow) k).2)), (6, .int (nI k)), (7, .int (nI ((q_g1 T n i k (q_gb T n ss i k ow j)).1))), (8, .int (nI ((q_g1 T n i k (q_gb T n ss i k ow j)).2.1))), (9, .int (nI ((q_g1 T n i k (q_gb T n ss i k ow j)).2.2)))]) hx hb dX10_place_176 hl (k := 10) rfl (nI_add _ 1) (by decide) rfl (fun ls hl => ?_)
                refine lv_goto (tgt := 80) hx hb dX10_place_179 (by decide) ?_
                have hl : lv_has ls 11 [(10, .int (nI (j + 1))), (0, .ref ma), (1, .int (nI i)), (2, .int v), (3, .int (nI (n - pop8 ow - 1))), (4, .int ((q_bb (q_gain T n ss i ow) k).1)), (5, .int ((q_bb (q_gain T n ss i ow) k).2)), (6, .int (nI k)), (7, .int (nI ((q_gb T n ss i k ow (j + 1)).1))), (8, .int (nI ((q_g1 T n i k (q_gb T n ss i k ow j)).2.1))), (9, .int (nI ((q_g1 T n i k (q_gb T n ss i k ow j)).2.2)))] := by rw [← show nI ((q_g1 T n i k (q_gb T n ss i k ow j)).1) = nI ((q_gb T n ss i k ow (j + 1)).1) from by show nI _ = nI (q_g2 T n ss i ow j (q_g1 T n i k (q_gb T n ss i k ow j))).1; rw [q_g2F (fun z => z.2.1 c_134)]]; exact hl
                have hl : lv_has ls 11 [(10, .int (nI (j + 1))), (0, .ref ma), (1, .int (nI i)), (2, .int v), (3, .int (nI (n - pop8 ow - 1))), (4, .int ((q_bb (q_gain T n ss i ow) k).1)), (5, .int ((q_bb (q_gain T n ss i ow) k).2)), (6, .int (nI k)), (7, .int (nI ((q_gb T n ss i k ow (j + 1)).1))), (8, .int (nI ((q_gb T n ss i k ow (j + 1)).2.1))), (9, .int (nI ((q_g1 T n i k (q_gb T n ss i k ow j)).2.2)))] := by rw [← show nI ((q_g1 T n i k (q_gb T n ss i k ow j)).2.1) = nI ((q_gb T n ss i k ow (j + 1)).2.1) from by show nI _ = nI (q_g2 T n ss i ow j (q_g1 T n i k (q_gb T n ss i k ow j))).2.1; rw [q_g2F (fun z => z.2.1 c_134)]]; exact hl
                have hl : lv_has ls 11 [(10, .int (nI (j + 1))), (0, .ref ma), (1, .int (nI i)), (2, .int v), (3, .int (nI (n - pop8 ow - 1))), (4, .int ((q_bb (q_gain T n ss i ow) k).1)), (5, .int ((q_bb (q_gain T n ss i ow) k).2)), (6, .int (nI k)), (7, .int (nI ((q_gb T n ss i k ow (j + 1)).1))), (8, .int (nI ((q_gb T n ss i k ow (j + 1)).2.1))), (9, .int (nI ((q_gb T n ss i k ow (j + 1)).2.2)))] := by rw [← show nI ((q_g1 T n i k (q_gb T n ss i k ow j)).2.2) = nI ((q_gb T n ss i k ow (j + 1)).2.2) from by show nI _ = nI (q_g2 T n ss i ow j (q_g1 T n i k (q_gb T n ss i k ow j))).2.2; rw [q_g2F (fun z => z.2.1 c_134)]]; exact hl
                exact ih80 (j + 1) (by first | assumption | exact Nat.zero_le _ | omega) (by first | assumption | exact Nat.zero_le _ | omega) (by omega) ls (lv_sub hl [1, 2, 3, 4, 5, 6, 7, 8, 9, 10, 0] rfl)
              · refine lv_aload_n hx hb dX10_place_137 rfl (lv_at hl 0 rfl) ?_
                refine q_get (ci := 10) (CC := RX10) (T := TX10) (N := 24) (v := .int (nI ow)) hx hb hts hin10 hown hK hP 0 rfl rfl 8 (by decide) (hts (.fieldLink RX10 107 "DearAsManyModel" "owners" "I") (by decide +kernel)) rfl rfl dX10_place_138 ?_
                refine lv_iload hx hb dX10_place_141 (lv_at hl 10 rfl) ?_
                refine q_si (As := [.int (nI ow), .int (nI j)]) (rest := []) ⟨hx, hb, hml, hown, hts⟩ (c_X10_has l (D := D) (cI := cI) (cB := cB) (cZ := cZ) (S := ow) (i := j) (by omega) (by omega)) (va_cwS 2 hts gX10_place_X10_has rfl rfl rfl (by decide +kernel) ⟨Nat.le_of_ble_eq_true rfl, Nat.le_of_ble_eq_true rfl⟩) hK hP [] rfl rfl hl.1 rfl (Nat.le_of_ble_eq_true rfl) dX10_place_143 ⟨Nat.zero_le _, Nat.zero_le _⟩ (fun r_143 hr_143 => ?_)
                have hr_143 : bI (ow.testBit j) = r_143 := (show r_143 = bI (ow.testBit j) from hr_143).symm
                subst hr_143
                refine q_bne (tgt := 176) hx hb dX10_place_146 (by decide) (fun c_146 => ?_) (fun c_146 => ?_)
                · refine lv_iinc (v := nI (j + 1)) (lv' := [(10, .int (nI (j + 1))), (0, .ref ma), (1, .int (nI i)), (2, .int v), (3, .int (nI (n - pop8 ow - 1))), (4, .int ((q_bb (q_gain T n ss i ow) k).1)), (5, .int ((q_bb (q_gain T n ss i ow) k).2)), (6, .int (nI k)), (7, .int (nI ((q_g1 T n i k (q_gb T n ss i k ow j)).1))), (8, .int (nI ((q_g1 T n i k (q_gb T n ss i k ow j)).2.1))), (9, .int (nI ((q_g1 T n i k (q_gb T n ss i k ow j)).2.2)))]) hx hb dX10_place_176 hl (k := 10) rfl (nI_add _ 1) (by decide) rfl (fun ls hl => ?_)
                  refine lv_goto (tgt := 80) hx hb dX10_place_179 (by decide) ?_
                  have hl : lv_has ls 11 [(10, .int (nI (j + 1))), (0, .ref ma), (1, .int (nI i)), (2, .int v), (3, .int (nI (n - pop8 ow - 1))), (4, .int ((q_bb (q_gain T n ss i ow) k).1)), (5, .int ((q_bb (q_gain T n ss i ow) k).2)), (6, .int (nI k)), (7, .int (nI ((q_gb T n ss i k ow (j + 1)).1))), (8, .int (nI ((q_g1 T n i k (q_gb T n ss i k ow j)).2.1))), (9, .int (nI ((q_g1 T n i k (q_gb T n ss i k ow j)).2.2)))] := by rw [← show nI ((q_g1 T n i k (q_gb T n ss i k ow j)).1) = nI ((q_gb T n ss i k ow (j + 1)).1) from by show nI _ = nI (q_g2 T n ss i ow j (q_g1 T n i k (q_gb T n ss i k ow j))).1; rw [q_g2F (fun z => by rw [c_146] at z; exact absurd z.2.2 (by decide))]]; exact hl
                  have hl : lv_has ls 11 [(10, .int (nI (j + 1))), (0, .ref ma), (1, .int (nI i)), (2, .int v), (3, .int (nI (n - pop8 ow - 1))), (4, .int ((q_bb (q_gain T n ss i ow) k).1)), (5, .int ((q_bb (q_gain T n ss i ow) k).2)), (6, .int (nI k)), (7, .int (nI ((q_gb T n ss i k ow (j + 1)).1))), (8, .int (nI ((q_gb T n ss i k ow (j + 1)).2.1))), (9, .int (nI ((q_g1 T n i k (q_gb T n ss i k ow j)).2.2)))] := by rw [← show nI ((q_g1 T n i k (q_gb T n ss i k ow j)).2.1) = nI ((q_gb T n ss i k ow (j + 1)).2.1) from by show nI _ = nI (q_g2 T n ss i ow j (q_g1 T n i k (q_gb T n ss i k ow j))).2.1; rw [q_g2F (fun z => by rw [c_146] at z; exact absurd z.2.2 (by decide))]]; exact hl
                  have hl : lv_has ls 11 [(10, .int (nI (j + 1))), (0, .ref ma), (1, .int (nI i)), (2, .int v), (3, .int (nI (n - pop8 ow - 1))), (4, .int ((q_bb (q_gain T n ss i ow) k).1)), (5, .int ((q_bb (q_gain T n ss i ow) k).2)), (6, .int (nI k)), (7, .int (nI ((q_gb T n ss i k ow (j + 1)).1))), (8, .int (nI ((q_gb T n ss i k ow (j + 1)).2.1))), (9, .int (nI ((q_gb T n ss i k ow (j + 1)).2.2)))] := by rw [← show nI ((q_g1 T n i k (q_gb T n ss i k ow j)).2.2) = nI ((q_gb T n ss i k ow (j + 1)).2.2) from by show nI _ = nI (q_g2 T n ss i ow j (q_g1 T n i k (q_gb T n ss i k ow j))).2.2; rw [q_g2F (fun z => by rw [c_146] at z; exact absurd z.2.2 (by decide))]]; exact hl
                  exact ih80 (j + 1) (by first | assumption | exact Nat.zero_le _ | omega) (by first | assumption | exact Nat.zero_le _ | omega) (by omega) ls (lv_sub hl [1, 2, 3, 4, 5, 6, 7, 8, 9, 10, 0] rfl)
                · refine lv_iload hx hb dX10_place_149 (lv_at hl 7 rfl) ?_
                  refine lv_aload_n hx hb dX10_place_151 rfl (lv_at hl 0 rfl) ?_
                  refine lv_iload hx hb dX10_place_152 (lv_at hl 10 rfl) ?_
                  refine lv_iload hx hb dX10_place_154 (lv_at hl 7 rfl) ?_
                  refine q_vi (As := [.int (nI j), .int (nI ((q_g1 T n i k (q_gb T n ss i k ow j)).1))]) (rest := [.int (nI ((q_g1 T n i k (q_gb T n ss i k ow j)).1))]) ⟨hx, hb, hml, hown, hts⟩ (c_X10_wouldBuy l (D := D) (cI := cI) (cB := cB) (cZ := cZ) (ma := ma) (mt := mt) (mk := mk) (mw := mw) (mc := mc) (mh := mh) (mp := mp) (mb := mb) (me := me) (wp0 := wp0) (wo0 := wo0) (wb0 := wb0) (mr := mr) (ml := ml) (tn := tn) (n := n) (ow := ow) (uc := uc) (kc := kc) (sc := sc) (ss := ss) (at0 := at0) (rm0 := rm0) (ro0 := ro0) (rs0 := rs0) (mK := mK) (mW := mW) (mC := mC) (mH := mH) (T := T) (i := j) (S := (q_g1 T n i k (q_gb T n ss i k ow j)).1) (by first | assumption | exact Nat.zero_le _ | omega) (by first | assumption | exact Nat.zero_le _ | omega) (by first | assumption | exact Nat.zero_le _ | omega) (by omega) (hs1)) (cwV 2 hts gX10_place_X10_wouldBuy rfl rfl rfl (by decide +kernel) ⟨Nat.le_of_ble_eq_true rfl, Nat.le_of_ble_eq_true rfl⟩) hK hP [0, 1, 2, 3, 4] rfl 0 10 rfl rfl rfl rfl hl.1 rfl (Nat.le_of_ble_eq_true rfl) dX10_place_156 ⟨Nat.zero_le _, Nat.zero_le _⟩ (fun r_156 hr_156 => ?_)
                  have hr_156 : bI (q_wB T n ss j ((q_g1 T n i k (q_gb T n ss i k ow j)).1)) = r_156 := (show r_156 = bI (q_wB T n ss j ((q_g1 T n i k (q_gb T n ss i k ow j)).1)) from hr_156).symm
                  subst hr_156
                  refine q_beq (tgt := 169) hx hb dX10_place_159 (by decide) (fun c_159 => ?_) (fun c_159 => ?_)
                  · refine lv_iconst (v := nI 0) hx hb dX10_place_169 (by decide) ?_
                    refine q_ior (v := nI (((q_g1 T n i k (q_gb T n ss i k ow j)).1) ||| 0)) hx hb dX10_place_170 (q_or _ _) ?_
                    refine lv_istore (lv' := [(7, .int (nI (((q_g1 T n i k (q_gb T n ss i k ow j)).1) ||| 0))), (0, .ref ma), (1, .int (nI i)), (2, .int v), (3, .int (nI (n - pop8 ow - 1))), (4, .int ((q_bb (q_gain T n ss i ow) k).1)), (5, .int ((q_bb (q_gain T n ss i ow) k).2)), (6, .int (nI k)), (8, .int (nI ((q_g1 T n i k (q_gb T n ss i k ow j)).2.1))), (9, .int (nI ((q_g1 T n i k (q_gb T n ss i k ow j)).2.2))), (10, .int (nI j))]) hx hb dX10_place_171 hl (by decide) rfl (fun ls hl => ?_)
                    refine lv_iinc (v := nI (((q_g1 T n i k (q_gb T n ss i k ow j)).2.1) + 1)) (lv' := [(8, .int (nI (((q_g1 T n i k (q_gb T n ss i k ow j)).2.1) + 1))), (7, .int (nI (((q_g1 T n i k (q_gb T n ss i k ow j)).1) ||| 0))), (0, .ref ma), (1, .int (nI i)), (2, .int v), (3, .int (nI (n - pop8 ow - 1))), (4, .int ((q_bb (q_gain T n ss i ow) k).1)), (5, .int ((q_bb (q_gain T n ss i ow) k).2)), (6, .int (nI k)), (9, .int (nI ((q_g1 T n i k (q_gb T n ss i k ow j)).2.2))), (10, .int (nI j))]) hx hb dX10_place_173 hl (k := 8) rfl (nI_add _ 1) (by decide) rfl (fun ls hl => ?_)
                    refine lv_iinc (v := nI (j + 1)) (lv' := [(10, .int (nI (j + 1))), (8, .int (nI (((q_g1 T n i k (q_gb T n ss i k ow j)).2.1) + 1))), (7, .int (nI (((q_g1 T n i k (q_gb T n ss i k ow j)).1) ||| 0))), (0, .ref ma), (1, .int (nI i)), (2, .int v), (3, .int (nI (n - pop8 ow - 1))), (4, .int ((q_bb (q_gain T n ss i ow) k).1)), (5, .int ((q_bb (q_gain T n ss i ow) k).2)), (6, .int (nI k)), (9, .int (nI ((q_g1 T n i k (q_gb T n ss i k ow j)).2.2)))]) hx hb dX10_place_176 hl (k := 10) rfl (nI_add _ 1) (by decide) rfl (fun ls hl => ?_)
                    refine lv_goto (tgt := 80) hx hb dX10_place_179 (by decide) ?_
                    have hwb := q_wBn (T := T) (n := n) (se := ss) (i := j) (show ((q_g1 T n i k (q_gb T n ss i k ow j))).1.testBit j = false from by rw [q_g1_bit c_134]; exact q_gb_bit c_134 c_146 j (Nat.le_refl j))
                    have hl : lv_has ls 11 [(10, .int (nI (j + 1))), (8, .int (nI (((q_g1 T n i k (q_gb T n ss i k ow j)).2.1) + 1))), (7, .int (nI ((q_gb T n ss i k ow (j + 1)).1))), (0, .ref ma), (1, .int (nI i)), (2, .int v), (3, .int (nI (n - pop8 ow - 1))), (4, .int ((q_bb (q_gain T n ss i ow) k).1)), (5, .int ((q_bb (q_gain T n ss i ow) k).2)), (6, .int (nI k)), (9, .int (nI ((q_g1 T n i k (q_gb T n ss i k ow j)).2.2)))] := by rw [← show nI (((q_g1 T n i k (q_gb T n ss i k ow j)).1) ||| 0) = nI ((q_gb T n ss i k ow (j + 1)).1) from by rw [Nat.or_zero, show ((q_gb T n ss i k ow (j + 1))).1 = (q_g2 T n ss i ow j (q_g1 T n i k (q_gb T n ss i k ow j))).1 from rfl, q_g2T (by omega) c_134 c_146]; rw [if_neg (by rw [← hwb, c_159]; decide)]]; exact hl
                    have hl : lv_has ls 11 [(10, .int (nI (j + 1))), (8, .int (nI ((q_gb T n ss i k ow (j + 1)).2.1))), (7, .int (nI ((q_gb T n ss i k ow (j + 1)).1))), (0, .ref ma), (1, .int (nI i)), (2, .int v), (3, .int (nI (n - pop8 ow - 1))), (4, .int ((q_bb (q_gain T n ss i ow) k).1)), (5, .int ((q_bb (q_gain T n ss i ow) k).2)), (6, .int (nI k)), (9, .int (nI ((q_g1 T n i k (q_gb T n ss i k ow j)).2.2)))] := by rw [← show nI (((q_g1 T n i k (q_gb T n ss i k ow j)).2.1) + 1) = nI ((q_gb T n ss i k ow (j + 1)).2.1) from by show nI _ = nI (q_g2 T n ss i ow j (q_g1 T n i k (q_gb T n ss i k ow j))).2.1; rw [q_g2T (by omega) c_134 c_146]]; exact hl
                    have hl : lv_has ls 11 [(10, .int (nI (j + 1))), (8, .int (nI ((q_gb T n ss i k ow (j + 1)).2.1))), (7, .int (nI ((q_gb T n ss i k ow (j + 1)).1))), (0, .ref ma), (1, .int (nI i)), (2, .int v), (3, .int (nI (n - pop8 ow - 1))), (4, .int ((q_bb (q_gain T n ss i ow) k).1)), (5, .int ((q_bb (q_gain T n ss i ow) k).2)), (6, .int (nI k)), (9, .int (nI ((q_gb T n ss i k ow (j + 1)).2.2)))] := by rw [← show nI ((q_g1 T n i k (q_gb T n ss i k ow j)).2.2) = nI ((q_gb T n ss i k ow (j + 1)).2.2) from by show nI _ = nI (q_g2 T n ss i ow j (q_g1 T n i k (q_gb T n ss i k ow j))).2.2; rw [q_g2T (by omega) c_134 c_146]]; exact hl
                    exact ih80 (j + 1) (by first | assumption | exact Nat.zero_le _ | omega) (by first | assumption | exact Nat.zero_le _ | omega) (by omega) ls (lv_sub hl [3, 4, 5, 6, 7, 8, 9, 2, 1, 10, 0] rfl)
                  · refine lv_iconst (v := nI 1) hx hb dX10_place_162 (by decide) ?_
                    refine lv_iload hx hb dX10_place_163 (lv_at hl 10 rfl) ?_
                    refine q_ishl (v := nI (2 ^ j)) hx hb dX10_place_165 (q_shl1 (by omega)) ?_
                    refine lv_goto (tgt := 170) hx hb dX10_place_166 (by decide) ?_
                    refine q_ior (v := nI (((q_g1 T n i k (q_gb T n ss i k ow j)).1) ||| (2 ^ j))) hx hb dX10_place_170 (q_or _ _) ?_
                    refine lv_istore (lv' := [(7, .int (nI (((q_g1 T n i k (q_gb T n ss i k ow j)).1) ||| (2 ^ j)))), (0, .ref ma), (1, .int (nI i)), (2, .int v), (3, .int (nI (n - pop8 ow - 1))), (4, .int ((q_bb (q_gain T n ss i ow) k).1)), (5, .int ((q_bb (q_gain T n ss i ow) k).2)), (6, .int (nI k)), (8, .int (nI ((q_g1 T n i k (q_gb T n ss i k ow j)).2.1))), (9, .int (nI ((q_g1 T n i k (q_gb T n ss i k ow j)).2.2))), (10, .int (nI j))]) hx hb dX10_place_171 hl (by decide) rfl (fun ls hl => ?_)
                    refine lv_iinc (v := nI (((q_g1 T n i k (q_gb T n ss i k ow j)).2.1) + 1)) (lv' := [(8, .int (nI (((q_g1 T n i k (q_gb T n ss i k ow j)).2.1) + 1))), (7, .int (nI (((q_g1 T n i k (q_gb T n ss i k ow j)).1) ||| (2 ^ j)))), (0, .ref ma), (1, .int (nI i)), (2, .int v), (3, .int (nI (n - pop8 ow - 1))), (4, .int ((q_bb (q_gain T n ss i ow) k).1)), (5, .int ((q_bb (q_gain T n ss i ow) k).2)), (6, .int (nI k)), (9, .int (nI ((q_g1 T n i k (q_gb T n ss i k ow j)).2.2))), (10, .int (nI j))]) hx hb dX10_place_173 hl (k := 8) rfl (nI_add _ 1) (by decide) rfl (fun ls hl => ?_)
                    refine lv_iinc (v := nI (j + 1)) (lv' := [(10, .int (nI (j + 1))), (8, .int (nI (((q_g1 T n i k (q_gb T n ss i k ow j)).2.1) + 1))), (7, .int (nI (((q_g1 T n i k (q_gb T n ss i k ow j)).1) ||| (2 ^ j)))), (0, .ref ma), (1, .int (nI i)), (2, .int v), (3, .int (nI (n - pop8 ow - 1))), (4, .int ((q_bb (q_gain T n ss i ow) k).1)), (5, .int ((q_bb (q_gain T n ss i ow) k).2)), (6, .int (nI k)), (9, .int (nI ((q_g1 T n i k (q_gb T n ss i k ow j)).2.2)))]) hx hb dX10_place_176 hl (k := 10) rfl (nI_add _ 1) (by decide) rfl (fun ls hl => ?_)
                    refine lv_goto (tgt := 80) hx hb dX10_place_179 (by decide) ?_
                    have hwb := q_wBn (T := T) (n := n) (se := ss) (i := j) (show ((q_g1 T n i k (q_gb T n ss i k ow j))).1.testBit j = false from by rw [q_g1_bit c_134]; exact q_gb_bit c_134 c_146 j (Nat.le_refl j))
                    have hl : lv_has ls 11 [(10, .int (nI (j + 1))), (8, .int (nI (((q_g1 T n i k (q_gb T n ss i k ow j)).2.1) + 1))), (7, .int (nI ((q_gb T n ss i k ow (j + 1)).1))), (0, .ref ma), (1, .int (nI i)), (2, .int v), (3, .int (nI (n - pop8 ow - 1))), (4, .int ((q_bb (q_gain T n ss i ow) k).1)), (5, .int ((q_bb (q_gain T n ss i ow) k).2)), (6, .int (nI k)), (9, .int (nI ((q_g1 T n i k (q_gb T n ss i k ow j)).2.2)))] := by rw [← show nI (((q_g1 T n i k (q_gb T n ss i k ow j)).1) ||| (2 ^ j)) = nI ((q_gb T n ss i k ow (j + 1)).1) from by rw [show ((q_gb T n ss i k ow (j + 1))).1 = (q_g2 T n ss i ow j (q_g1 T n i k (q_gb T n ss i k ow j))).1 from rfl, q_g2T (by omega) c_134 c_146]; rw [if_pos (by rw [← hwb]; exact c_159)]]; exact hl
                    have hl : lv_has ls 11 [(10, .int (nI (j + 1))), (8, .int (nI ((q_gb T n ss i k ow (j + 1)).2.1))), (7, .int (nI ((q_gb T n ss i k ow (j + 1)).1))), (0, .ref ma), (1, .int (nI i)), (2, .int v), (3, .int (nI (n - pop8 ow - 1))), (4, .int ((q_bb (q_gain T n ss i ow) k).1)), (5, .int ((q_bb (q_gain T n ss i ow) k).2)), (6, .int (nI k)), (9, .int (nI ((q_g1 T n i k (q_gb T n ss i k ow j)).2.2)))] := by rw [← show nI (((q_g1 T n i k (q_gb T n ss i k ow j)).2.1) + 1) = nI ((q_gb T n ss i k ow (j + 1)).2.1) from by show nI _ = nI (q_g2 T n ss i ow j (q_g1 T n i k (q_gb T n ss i k ow j))).2.1; rw [q_g2T (by omega) c_134 c_146]]; exact hl
                    have hl : lv_has ls 11 [(10, .int (nI (j + 1))), (8, .int (nI ((q_gb T n ss i k ow (j + 1)).2.1))), (7, .int (nI ((q_gb T n ss i k ow (j + 1)).1))), (0, .ref ma), (1, .int (nI i)), (2, .int v), (3, .int (nI (n - pop8 ow - 1))), (4, .int ((q_bb (q_gain T n ss i ow) k).1)), (5, .int ((q_bb (q_gain T n ss i ow) k).2)), (6, .int (nI k)), (9, .int (nI ((q_gb T n ss i k ow (j + 1)).2.2)))] := by rw [← show nI ((q_g1 T n i k (q_gb T n ss i k ow j)).2.2) = nI ((q_gb T n ss i k ow (j + 1)).2.2) from by show nI _ = nI (q_g2 T n ss i ow j (q_g1 T n i k (q_gb T n ss i k ow j))).2.2; rw [q_g2T (by omega) c_134 c_146]]; exact hl
                    exact ih80 (j + 1) (by first | assumption | exact Nat.zero_le _ | omega) (by first | assumption | exact Nat.zero_le _ | omega) (by omega) ls (lv_sub hl [3, 4, 5, 6, 7, 8, 9, 2, 1, 10, 0] rfl)
          have hs := q_gb_lt (T := T) (se := ss) (k := k) hi how j
          have hcm := q_gb_c (T := T) (n := n) (se := ss) (i := i) (k := k) (ow := ow) j
          refine lv_iload hx hb dX10_place_80 (lv_at hl 10 rfl) ?_
          refine lv_aload_n hx hb dX10_place_82 rfl (lv_at hl 0 rfl) ?_
          refine q_get (ci := 10) (CC := RX10) (T := TX10) (N := 24) (v := .int (nI n)) hx hb hts hin10 hown hK hP 0 rfl rfl 2 (by decide) (hts (.fieldLink RX10 13 "DearAsManyModel" "many" "I") (by decide +kernel)) rfl rfl dX10_place_83 ?_
          refine q_ngt (tgt := 182) hx hb dX10_place_86 (by decide) (by omega) (by omega) (fun c_86 => ?_) (fun c_86 => ?_)
          · refine lv_aload_n hx hb dX10_place_182 rfl (lv_at hl 0 rfl) ?_
            refine lv_iload_n hx hb dX10_place_183 rfl (lv_at hl 1 rfl) ?_
            refine lv_iload hx hb dX10_place_184 (lv_at hl 7 rfl) ?_
            refine q_vi (As := [.int (nI i), .int (nI ((q_gb T n ss i k ow j).1))]) (rest := []) ⟨hx, hb, hml, hown, hts⟩ (c_X10_worthOf l (D := D) (cI := cI) (cB := cB) (cZ := cZ) (ma := ma) (mt := mt) (mk := mk) (mw := mw) (mc := mc) (mh := mh) (mp := mp) (mb := mb) (me := me) (wp0 := wp0) (wo0 := wo0) (wb0 := wb0) (mr := mr) (ml := ml) (tn := tn) (n := n) (ow := ow) (uc := uc) (kc := kc) (sc := sc) (ss := ss) (at0 := at0) (rm0 := rm0) (ro0 := ro0) (rs0 := rs0) (mK := mK) (mW := mW) (mC := mC) (mH := mH) (T := T) (i := i) (S := (q_gb T n ss i k ow j).1) (by first | assumption | exact Nat.zero_le _ | omega) (by first | assumption | exact Nat.zero_le _ | omega) (by first | assumption | exact Nat.zero_le _ | omega) (by first | assumption | exact Nat.zero_le _ | omega) (hs)) (cwV 2 hts gX10_place_X10_worthOf rfl rfl rfl (by decide +kernel) ⟨Nat.le_of_ble_eq_true rfl, Nat.le_of_ble_eq_true rfl⟩) hK hP [0, 1, 2, 3, 4] rfl 0 10 rfl rfl rfl rfl hl.1 rfl (Nat.le_of_ble_eq_true rfl) dX10_place_186 ⟨Nat.zero_le _, Nat.zero_le _⟩ (fun r_186 hr_186 => ?_)
            have hr_186 : q_wor T n ss i ((q_gb T n ss i k ow j).1) = r_186 := (show r_186 = q_wor T n ss i ((q_gb T n ss i k ow j).1) from hr_186).symm
            subst hr_186
            refine lv_iload hx hb dX10_place_189 (lv_at hl 9 rfl) ?_
            refine q_isub (v := q_gain T n ss i ow k) hx hb dX10_place_191 (by rw [show j = n + 1 from by omega]; rfl) ?_
            refine lv_istore (lv' := [(10, .int (q_gain T n ss i ow k)), (0, .ref ma), (1, .int (nI i)), (2, .int v), (3, .int (nI (n - pop8 ow - 1))), (4, .int ((q_bb (q_gain T n ss i ow) k).1)), (5, .int ((q_bb (q_gain T n ss i ow) k).2)), (6, .int (nI k)), (7, .int (nI ((q_gb T n ss i k ow j).1))), (8, .int (nI ((q_gb T n ss i k ow j).2.1))), (9, .int (nI ((q_gb T n ss i k ow j).2.2)))]) hx hb dX10_place_192 hl (by decide) rfl (fun ls hl => ?_)
            rcases q_zs k with hz | ⟨k1, hk1⟩
            · have hl : lv_has ls 11 [(10, .int (q_gain T n ss i ow k)), (0, .ref ma), (1, .int (nI i)), (2, .int v), (3, .int (nI (n - pop8 ow - 1))), (4, .int (-4 : Int32)), (5, .int ((q_bb (q_gain T n ss i ow) k).2)), (6, .int (nI k)), (7, .int (nI ((q_gb T n ss i k ow j).1))), (8, .int (nI ((q_gb T n ss i k ow j).2.1))), (9, .int (nI ((q_gb T n ss i k ow j).2.2)))] := by rw [← show (q_bb (q_gain T n ss i ow) k).1 = (-4 : Int32) from by rw [hz]; rfl]; exact hl
              refine lv_iload hx hb dX10_place_194 (lv_at hl 5 rfl) ?_
              refine lv_bipush (v := (-4 : Int32)) hx hb dX10_place_196 (by decide) ?_
              refine lv_icmp_eq (x := (-4 : Int32)) (y := (-4 : Int32)) (tgt := 208) hx hb dX10_place_198 (by decide) (fun c_198 => ?_) (fun c_198 => ?_)
              · refine lv_iload hx hb dX10_place_208 (lv_at hl 7 rfl) ?_
                refine lv_istore (lv' := [(4, .int (nI k)), (10, .int (q_gain T n ss i ow k)), (0, .ref ma), (1, .int (nI i)), (2, .int v), (3, .int (nI (n - pop8 ow - 1))), (5, .int ((q_bb (q_gain T n ss i ow) k).2)), (6, .int (nI k)), (7, .int (nI ((q_gb T n ss i k ow j).1))), (8, .int (nI ((q_gb T n ss i k ow j).2.1))), (9, .int (nI ((q_gb T n ss i k ow j).2.2)))]) hx hb dX10_place_210 hl (by decide) rfl (fun ls hl => ?_)
                refine lv_iload hx hb dX10_place_212 (lv_at hl 1 rfl) ?_
                refine lv_istore (lv' := [(5, .int (q_gain T n ss i ow k)), (4, .int (nI k)), (10, .int (q_gain T n ss i ow k)), (0, .ref ma), (1, .int (nI i)), (2, .int v), (3, .int (nI (n - pop8 ow - 1))), (6, .int (nI k)), (7, .int (nI ((q_gb T n ss i k ow j).1))), (8, .int (nI ((q_gb T n ss i k ow j).2.1))), (9, .int (nI ((q_gb T n ss i k ow j).2.2)))]) hx hb dX10_place_214 hl (by decide) rfl (fun ls hl => ?_)
                refine lv_iinc (v := nI (k + 1)) (lv' := [(6, .int (nI (k + 1))), (5, .int (q_gain T n ss i ow k)), (4, .int (nI k)), (10, .int (q_gain T n ss i ow k)), (0, .ref ma), (1, .int (nI i)), (2, .int v), (3, .int (nI (n - pop8 ow - 1))), (7, .int (nI ((q_gb T n ss i k ow j).1))), (8, .int (nI ((q_gb T n ss i k ow j).2.1))), (9, .int (nI ((q_gb T n ss i k ow j).2.2)))]) hx hb dX10_place_216 hl (k := 7) rfl (nI_add _ 1) (by decide) rfl (fun ls hl => ?_)
                refine lv_goto (tgt := 59) hx hb dX10_place_219 (by decide) ?_
                have hl : lv_has ls 11 [(6, .int (nI (k + 1))), (5, .int (q_gain T n ss i ow k)), (4, .int ((q_bb (q_gain T n ss i ow) (k + 1)).1)), (10, .int (q_gain T n ss i ow k)), (0, .ref ma), (1, .int (nI i)), (2, .int v), (3, .int (nI (n - pop8 ow - 1))), (7, .int (nI ((q_gb T n ss i k ow j).1))), (8, .int (nI ((q_gb T n ss i k ow j).2.1))), (9, .int (nI ((q_gb T n ss i k ow j).2.2)))] := by rw [← show nI k = (q_bb (q_gain T n ss i ow) (k + 1)).1 from by rw [q_bbZ hz]]; exact hl
                have hl : lv_has ls 11 [(6, .int (nI (k + 1))), (5, .int ((q_bb (q_gain T n ss i ow) (k + 1)).2)), (4, .int ((q_bb (q_gain T n ss i ow) (k + 1)).1)), (10, .int (q_gain T n ss i ow k)), (0, .ref ma), (1, .int (nI i)), (2, .int v), (3, .int (nI (n - pop8 ow - 1))), (7, .int (nI ((q_gb T n ss i k ow j).1))), (8, .int (nI ((q_gb T n ss i k ow j).2.1))), (9, .int (nI ((q_gb T n ss i k ow j).2.2)))] := by rw [← show q_gain T n ss i ow k = (q_bb (q_gain T n ss i ow) (k + 1)).2 from by rw [q_bbZ hz]]; exact hl
                exact ih59 (k + 1) i (hw) (hi) (hv) (hno) (by omega) (by omega) ls (lv_sub hl [4, 5, 6, 7, 2, 1, 0] rfl)
              · exact absurd c_198 ((fun z => z rfl))
            · have hl : lv_has ls 11 [(10, .int (q_gain T n ss i ow k)), (0, .ref ma), (1, .int (nI i)), (2, .int v), (3, .int (nI (n - pop8 ow - 1))), (4, .int (nI ((q_ba (q_gain T n ss i ow) k1).1))), (5, .int ((q_bb (q_gain T n ss i ow) k).2)), (6, .int (nI k)), (7, .int (nI ((q_gb T n ss i k ow j).1))), (8, .int (nI ((q_gb T n ss i k ow j).2.1))), (9, .int (nI ((q_gb T n ss i k ow j).2.2)))] := by rw [← show (q_bb (q_gain T n ss i ow) k).1 = nI ((q_ba (q_gain T n ss i ow) k1).1) from by rw [q_bbE hk1]]; exact hl
              have hl : lv_has ls 11 [(10, .int (q_gain T n ss i ow k)), (0, .ref ma), (1, .int (nI i)), (2, .int v), (3, .int (nI (n - pop8 ow - 1))), (4, .int (nI ((q_ba (q_gain T n ss i ow) k1).1))), (5, .int ((q_ba (q_gain T n ss i ow) k1).2)), (6, .int (nI k)), (7, .int (nI ((q_gb T n ss i k ow j).1))), (8, .int (nI ((q_gb T n ss i k ow j).2.1))), (9, .int (nI ((q_gb T n ss i k ow j).2.2)))] := by rw [← show (q_bb (q_gain T n ss i ow) k).2 = (q_ba (q_gain T n ss i ow) k1).2 from by rw [q_bbE hk1]]; exact hl
              refine lv_iload hx hb dX10_place_194 (lv_at hl 5 rfl) ?_
              refine lv_bipush (v := (-4 : Int32)) hx hb dX10_place_196 (by decide) ?_
              refine lv_icmp_eq (x := nI ((q_ba (q_gain T n ss i ow) k1).1)) (y := (-4 : Int32)) (tgt := 208) hx hb dX10_place_198 (by decide) (fun c_198 => ?_) (fun c_198 => ?_)
              · exact absurd c_198 ((q_m4ne (by have := q_ba_le (q_gain T n ss i ow) k1; omega)))
              · refine lv_iload hx hb dX10_place_201 (lv_at hl 0 rfl) ?_
                refine lv_iload hx hb dX10_place_203 (lv_at hl 6 rfl) ?_
                refine lv_icmp_le (x := q_gain T n ss i ow k) (y := (q_ba (q_gain T n ss i ow) k1).2) (tgt := 216) hx hb dX10_place_205 (by decide) (fun c_205 => ?_) (fun c_205 => ?_)
                · refine lv_iinc (v := nI (k + 1)) (lv' := [(6, .int (nI (k + 1))), (10, .int (q_gain T n ss i ow k)), (0, .ref ma), (1, .int (nI i)), (2, .int v), (3, .int (nI (n - pop8 ow - 1))), (4, .int (nI ((q_ba (q_gain T n ss i ow) k1).1))), (5, .int ((q_ba (q_gain T n ss i ow) k1).2)), (7, .int (nI ((q_gb T n ss i k ow j).1))), (8, .int (nI ((q_gb T n ss i k ow j).2.1))), (9, .int (nI ((q_gb T n ss i k ow j).2.2)))]) hx hb dX10_place_216 hl (k := 7) rfl (nI_add _ 1) (by decide) rfl (fun ls hl => ?_)
                  refine lv_goto (tgt := 59) hx hb dX10_place_219 (by decide) ?_
                  have hl : lv_has ls 11 [(6, .int (nI (k + 1))), (10, .int (q_gain T n ss i ow k)), (0, .ref ma), (1, .int (nI i)), (2, .int v), (3, .int (nI (n - pop8 ow - 1))), (4, .int ((q_bb (q_gain T n ss i ow) (k + 1)).1)), (5, .int ((q_ba (q_gain T n ss i ow) k1).2)), (7, .int (nI ((q_gb T n ss i k ow j).1))), (8, .int (nI ((q_gb T n ss i k ow j).2.1))), (9, .int (nI ((q_gb T n ss i k ow j).2.2)))] := by rw [← show nI ((q_ba (q_gain T n ss i ow) k1).1) = (q_bb (q_gain T n ss i ow) (k + 1)).1 from by rw [q_bbF' hk1 c_205]]; exact hl
                  have hl : lv_has ls 11 [(6, .int (nI (k + 1))), (10, .int (q_gain T n ss i ow k)), (0, .ref ma), (1, .int (nI i)), (2, .int v), (3, .int (nI (n - pop8 ow - 1))), (4, .int ((q_bb (q_gain T n ss i ow) (k + 1)).1)), (5, .int ((q_bb (q_gain T n ss i ow) (k + 1)).2)), (7, .int (nI ((q_gb T n ss i k ow j).1))), (8, .int (nI ((q_gb T n ss i k ow j).2.1))), (9, .int (nI ((q_gb T n ss i k ow j).2.2)))] := by rw [← show (q_ba (q_gain T n ss i ow) k1).2 = (q_bb (q_gain T n ss i ow) (k + 1)).2 from by rw [q_bbF' hk1 c_205]]; exact hl
                  exact ih59 (k + 1) i (hw) (hi) (hv) (hno) (by omega) (by omega) ls (lv_sub hl [2, 3, 4, 5, 6, 7, 0] rfl)
                · refine lv_iload hx hb dX10_place_208 (lv_at hl 7 rfl) ?_
                  refine lv_istore (lv' := [(4, .int (nI k)), (10, .int (q_gain T n ss i ow k)), (0, .ref ma), (1, .int (nI i)), (2, .int v), (3, .int (nI (n - pop8 ow - 1))), (5, .int ((q_ba (q_gain T n ss i ow) k1).2)), (6, .int (nI k)), (7, .int (nI ((q_gb T n ss i k ow j).1))), (8, .int (nI ((q_gb T n ss i k ow j).2.1))), (9, .int (nI ((q_gb T n ss i k ow j).2.2)))]) hx hb dX10_place_210 hl (by decide) rfl (fun ls hl => ?_)
                  refine lv_iload hx hb dX10_place_212 (lv_at hl 1 rfl) ?_
                  refine lv_istore (lv' := [(5, .int (q_gain T n ss i ow k)), (4, .int (nI k)), (10, .int (q_gain T n ss i ow k)), (0, .ref ma), (1, .int (nI i)), (2, .int v), (3, .int (nI (n - pop8 ow - 1))), (6, .int (nI k)), (7, .int (nI ((q_gb T n ss i k ow j).1))), (8, .int (nI ((q_gb T n ss i k ow j).2.1))), (9, .int (nI ((q_gb T n ss i k ow j).2.2)))]) hx hb dX10_place_214 hl (by decide) rfl (fun ls hl => ?_)
                  refine lv_iinc (v := nI (k + 1)) (lv' := [(6, .int (nI (k + 1))), (5, .int (q_gain T n ss i ow k)), (4, .int (nI k)), (10, .int (q_gain T n ss i ow k)), (0, .ref ma), (1, .int (nI i)), (2, .int v), (3, .int (nI (n - pop8 ow - 1))), (7, .int (nI ((q_gb T n ss i k ow j).1))), (8, .int (nI ((q_gb T n ss i k ow j).2.1))), (9, .int (nI ((q_gb T n ss i k ow j).2.2)))]) hx hb dX10_place_216 hl (k := 7) rfl (nI_add _ 1) (by decide) rfl (fun ls hl => ?_)
                  refine lv_goto (tgt := 59) hx hb dX10_place_219 (by decide) ?_
                  have hl : lv_has ls 11 [(6, .int (nI (k + 1))), (5, .int (q_gain T n ss i ow k)), (4, .int ((q_bb (q_gain T n ss i ow) (k + 1)).1)), (10, .int (q_gain T n ss i ow k)), (0, .ref ma), (1, .int (nI i)), (2, .int v), (3, .int (nI (n - pop8 ow - 1))), (7, .int (nI ((q_gb T n ss i k ow j).1))), (8, .int (nI ((q_gb T n ss i k ow j).2.1))), (9, .int (nI ((q_gb T n ss i k ow j).2.2)))] := by rw [← show nI k = (q_bb (q_gain T n ss i ow) (k + 1)).1 from by rw [q_bbT' hk1 c_205]]; exact hl
                  have hl : lv_has ls 11 [(6, .int (nI (k + 1))), (5, .int ((q_bb (q_gain T n ss i ow) (k + 1)).2)), (4, .int ((q_bb (q_gain T n ss i ow) (k + 1)).1)), (10, .int (q_gain T n ss i ow k)), (0, .ref ma), (1, .int (nI i)), (2, .int v), (3, .int (nI (n - pop8 ow - 1))), (7, .int (nI ((q_gb T n ss i k ow j).1))), (8, .int (nI ((q_gb T n ss i k ow j).2.1))), (9, .int (nI ((q_gb T n ss i k ow j).2.2)))] := by rw [← show q_gain T n ss i ow k = (q_bb (q_gain T n ss i ow) (k + 1)).2 from by rw [q_bbT' hk1 c_205]]; exact hl
                  exact ih59 (k + 1) i (hw) (hi) (hv) (hno) (by omega) (by omega) ls (lv_sub hl [4, 5, 6, 7, 2, 1, 0] rfl)
          · refine lv_iload hx hb dX10_place_89 (lv_at hl 8 rfl) ?_
            refine lv_iload hx hb dX10_place_91 (lv_at hl 6 rfl) ?_
            refine q_nne (tgt := 122) hx hb dX10_place_93 (by decide) (by omega) (by omega) (fun c_93 => ?_) (fun c_93 => ?_)
            · have hl : lv_has ls 11 [(0, .ref ma), (1, .int (nI i)), (2, .int v), (3, .int (nI (n - pop8 ow - 1))), (4, .int ((q_bb (q_gain T n ss i ow) k).1)), (5, .int ((q_bb (q_gain T n ss i ow) k).2)), (6, .int (nI k)), (7, .int (nI ((q_g1 T n i k (q_gb T n ss i k ow j)).1))), (8, .int (nI ((q_gb T n ss i k ow j).2.1))), (9, .int (nI ((q_gb T n ss i k ow j).2.2))), (10, .int (nI j))] := by rw [← show nI ((q_gb T n ss i k ow j).1) = nI ((q_g1 T n i k (q_gb T n ss i k ow j)).1) from by rw [q_g1F (fun z => c_93 z.1)]]; exact hl
              have hl : lv_has ls 11 [(0, .ref ma), (1, .int (nI i)), (2, .int v), (3, .int (nI (n - pop8 ow - 1))), (4, .int ((q_bb (q_gain T n ss i ow) k).1)), (5, .int ((q_bb (q_gain T n ss i ow) k).2)), (6, .int (nI k)), (7, .int (nI ((q_g1 T n i k (q_gb T n ss i k ow j)).1))), (8, .int (nI ((q_g1 T n i k (q_gb T n ss i k ow j)).2.1))), (9, .int (nI ((q_gb T n ss i k ow j).2.2))), (10, .int (nI j))] := by rw [← show nI ((q_gb T n ss i k ow j).2.1) = nI ((q_g1 T n i k (q_gb T n ss i k ow j)).2.1) from by rw [q_g1F (fun z => c_93 z.1)]]; exact hl
              have hl : lv_has ls 11 [(0, .ref ma), (1, .int (nI i)), (2, .int v), (3, .int (nI (n - pop8 ow - 1))), (4, .int ((q_bb (q_gain T n ss i ow) k).1)), (5, .int ((q_bb (q_gain T n ss i ow) k).2)), (6, .int (nI k)), (7, .int (nI ((q_g1 T n i k (q_gb T n ss i k ow j)).1))), (8, .int (nI ((q_g1 T n i k (q_gb T n ss i k ow j)).2.1))), (9, .int (nI ((q_g1 T n i k (q_gb T n ss i k ow j)).2.2))), (10, .int (nI j))] := by rw [← show nI ((q_gb T n ss i k ow j).2.2) = nI ((q_g1 T n i k (q_gb T n ss i k ow j)).2.2) from by rw [q_g1F (fun z => c_93 z.1)]]; exact hl
              exact L122 (by first | assumption | exact Nat.zero_le _ | omega) ls (lv_sub hl [0, 1, 2, 3, 4, 5, 6, 7, 8, 9, 10] rfl)
            · refine lv_iload hx hb dX10_place_96 (lv_at hl 7 rfl) ?_
              refine lv_iload_n hx hb dX10_place_98 rfl (lv_at hl 1 rfl) ?_
              refine q_si (As := [.int (nI ((q_gb T n ss i k ow j).1)), .int (nI i)]) (rest := []) ⟨hx, hb, hml, hown, hts⟩ (c_X10_has l (D := D) (cI := cI) (cB := cB) (cZ := cZ) (S := (q_gb T n ss i k ow j).1) (i := i) (by omega) (by omega)) (va_cwS 2 hts gX10_place_X10_has rfl rfl rfl (by decide +kernel) ⟨Nat.le_of_ble_eq_true rfl, Nat.le_of_ble_eq_true rfl⟩) hK hP [] rfl rfl hl.1 rfl (Nat.le_of_ble_eq_true rfl) dX10_place_99 ⟨Nat.zero_le _, Nat.zero_le _⟩ (fun r_99 hr_99 => ?_)
              have hr_99 : bI (((q_gb T n ss i k ow j).1).testBit i) = r_99 := (show r_99 = bI (((q_gb T n ss i k ow j).1).testBit i) from hr_99).symm
              subst hr_99
              refine q_bne (tgt := 122) hx hb dX10_place_102 (by decide) (fun c_102 => ?_) (fun c_102 => ?_)
              · have hl : lv_has ls 11 [(0, .ref ma), (1, .int (nI i)), (2, .int v), (3, .int (nI (n - pop8 ow - 1))), (4, .int ((q_bb (q_gain T n ss i ow) k).1)), (5, .int ((q_bb (q_gain T n ss i ow) k).2)), (6, .int (nI k)), (7, .int (nI ((q_g1 T n i k (q_gb T n ss i k ow j)).1))), (8, .int (nI ((q_gb T n ss i k ow j).2.1))), (9, .int (nI ((q_gb T n ss i k ow j).2.2))), (10, .int (nI j))] := by rw [← show nI ((q_gb T n ss i k ow j).1) = nI ((q_g1 T n i k (q_gb T n ss i k ow j)).1) from by rw [q_g1F (fun z => by rw [c_102] at z; exact absurd z.2 (by decide))]]; exact hl
                have hl : lv_has ls 11 [(0, .ref ma), (1, .int (nI i)), (2, .int v), (3, .int (nI (n - pop8 ow - 1))), (4, .int ((q_bb (q_gain T n ss i ow) k).1)), (5, .int ((q_bb (q_gain T n ss i ow) k).2)), (6, .int (nI k)), (7, .int (nI ((q_g1 T n i k (q_gb T n ss i k ow j)).1))), (8, .int (nI ((q_g1 T n i k (q_gb T n ss i k ow j)).2.1))), (9, .int (nI ((q_gb T n ss i k ow j).2.2))), (10, .int (nI j))] := by rw [← show nI ((q_gb T n ss i k ow j).2.1) = nI ((q_g1 T n i k (q_gb T n ss i k ow j)).2.1) from by rw [q_g1F (fun z => by rw [c_102] at z; exact absurd z.2 (by decide))]]; exact hl
                have hl : lv_has ls 11 [(0, .ref ma), (1, .int (nI i)), (2, .int v), (3, .int (nI (n - pop8 ow - 1))), (4, .int ((q_bb (q_gain T n ss i ow) k).1)), (5, .int ((q_bb (q_gain T n ss i ow) k).2)), (6, .int (nI k)), (7, .int (nI ((q_g1 T n i k (q_gb T n ss i k ow j)).1))), (8, .int (nI ((q_g1 T n i k (q_gb T n ss i k ow j)).2.1))), (9, .int (nI ((q_g1 T n i k (q_gb T n ss i k ow j)).2.2))), (10, .int (nI j))] := by rw [← show nI ((q_gb T n ss i k ow j).2.2) = nI ((q_g1 T n i k (q_gb T n ss i k ow j)).2.2) from by rw [q_g1F (fun z => by rw [c_102] at z; exact absurd z.2 (by decide))]]; exact hl
                exact L122 (by first | assumption | exact Nat.zero_le _ | omega) ls (lv_sub hl [0, 1, 2, 3, 4, 5, 6, 7, 8, 9, 10] rfl)
              · refine lv_aload_n hx hb dX10_place_105 rfl (lv_at hl 0 rfl) ?_
                refine lv_iload_n hx hb dX10_place_106 rfl (lv_at hl 1 rfl) ?_
                refine lv_iload hx hb dX10_place_107 (lv_at hl 7 rfl) ?_
                refine q_vi (As := [.int (nI i), .int (nI ((q_gb T n ss i k ow j).1))]) (rest := []) ⟨hx, hb, hml, hown, hts⟩ (c_X10_others l (D := D) (cI := cI) (cB := cB) (cZ := cZ) (ma := ma) (mt := mt) (mk := mk) (mw := mw) (mc := mc) (mh := mh) (mp := mp) (mb := mb) (me := me) (wp0 := wp0) (wo0 := wo0) (wb0 := wb0) (mr := mr) (ml := ml) (tn := tn) (n := n) (ow := ow) (uc := uc) (kc := kc) (sc := sc) (ss := ss) (at0 := at0) (rm0 := rm0) (ro0 := ro0) (rs0 := rs0) (mK := mK) (mW := mW) (mC := mC) (mH := mH) (T := T) (i := i) (S := (q_gb T n ss i k ow j).1) (by first | assumption | exact Nat.zero_le _ | omega) (by first | assumption | exact Nat.zero_le _ | omega) (by first | assumption | exact Nat.zero_le _ | omega) (by first | assumption | exact Nat.zero_le _ | omega) (hs)) (cwV 2 hts gX10_place_X10_others rfl rfl rfl (by decide +kernel) ⟨Nat.le_of_ble_eq_true rfl, Nat.le_of_ble_eq_true rfl⟩) hK hP [0, 1, 2, 3, 4] rfl 0 10 rfl rfl rfl rfl hl.1 rfl (Nat.le_of_ble_eq_true rfl) dX10_place_109 ⟨Nat.zero_le _, Nat.zero_le _⟩ (fun r_109 hr_109 => ?_)
                have hr_109 : nI (q_oth T n i ((q_gb T n ss i k ow j).1)) = r_109 := (show r_109 = nI (q_oth T n i ((q_gb T n ss i k ow j).1)) from hr_109).symm
                subst hr_109
                refine lv_istore (lv' := [(9, .int (nI (q_oth T n i ((q_gb T n ss i k ow j).1)))), (0, .ref ma), (1, .int (nI i)), (2, .int v), (3, .int (nI (n - pop8 ow - 1))), (4, .int ((q_bb (q_gain T n ss i ow) k).1)), (5, .int ((q_bb (q_gain T n ss i ow) k).2)), (6, .int (nI k)), (7, .int (nI ((q_gb T n ss i k ow j).1))), (8, .int (nI ((q_gb T n ss i k ow j).2.1))), (10, .int (nI j))]) hx hb dX10_place_112 hl (by decide) rfl (fun ls hl => ?_)
                refine lv_iload hx hb dX10_place_114 (lv_at hl 8 rfl) ?_
                refine lv_iconst (v := nI 1) hx hb dX10_place_116 (by decide) ?_
                refine lv_iload_n hx hb dX10_place_117 rfl (lv_at hl 2 rfl) ?_
                refine q_ishl (v := nI (2 ^ i)) hx hb dX10_place_118 (q_shl1 (by omega)) ?_
                refine q_ior (v := nI (((q_gb T n ss i k ow j).1) ||| (2 ^ i))) hx hb dX10_place_119 (q_or _ _) ?_
                refine lv_istore (lv' := [(7, .int (nI (((q_gb T n ss i k ow j).1) ||| (2 ^ i)))), (9, .int (nI (q_oth T n i ((q_gb T n ss i k ow j).1)))), (0, .ref ma), (1, .int (nI i)), (2, .int v), (3, .int (nI (n - pop8 ow - 1))), (4, .int ((q_bb (q_gain T n ss i ow) k).1)), (5, .int ((q_bb (q_gain T n ss i ow) k).2)), (6, .int (nI k)), (8, .int (nI ((q_gb T n ss i k ow j).2.1))), (10, .int (nI j))]) hx hb dX10_place_120 hl (by decide) rfl (fun ls hl => ?_)
                have hl : lv_has ls 11 [(7, .int (nI ((q_g1 T n i k (q_gb T n ss i k ow j)).1))), (9, .int (nI (q_oth T n i ((q_gb T n ss i k ow j).1)))), (0, .ref ma), (1, .int (nI i)), (2, .int v), (3, .int (nI (n - pop8 ow - 1))), (4, .int ((q_bb (q_gain T n ss i ow) k).1)), (5, .int ((q_bb (q_gain T n ss i ow) k).2)), (6, .int (nI k)), (8, .int (nI ((q_gb T n ss i k ow j).2.1))), (10, .int (nI j))] := by rw [← show nI (((q_gb T n ss i k ow j).1) ||| (2 ^ i)) = nI ((q_g1 T n i k (q_gb T n ss i k ow j)).1) from by rw [q_g1T c_93 c_102]]; exact hl
                have hl : lv_has ls 11 [(7, .int (nI ((q_g1 T n i k (q_gb T n ss i k ow j)).1))), (9, .int (nI (q_oth T n i ((q_gb T n ss i k ow j).1)))), (0, .ref ma), (1, .int (nI i)), (2, .int v), (3, .int (nI (n - pop8 ow - 1))), (4, .int ((q_bb (q_gain T n ss i ow) k).1)), (5, .int ((q_bb (q_gain T n ss i ow) k).2)), (6, .int (nI k)), (8, .int (nI ((q_g1 T n i k (q_gb T n ss i k ow j)).2.1))), (10, .int (nI j))] := by rw [← show nI ((q_gb T n ss i k ow j).2.1) = nI ((q_g1 T n i k (q_gb T n ss i k ow j)).2.1) from by rw [q_g1T c_93 c_102]]; exact hl
                have hl : lv_has ls 11 [(7, .int (nI ((q_g1 T n i k (q_gb T n ss i k ow j)).1))), (9, .int (nI ((q_g1 T n i k (q_gb T n ss i k ow j)).2.2))), (0, .ref ma), (1, .int (nI i)), (2, .int v), (3, .int (nI (n - pop8 ow - 1))), (4, .int ((q_bb (q_gain T n ss i ow) k).1)), (5, .int ((q_bb (q_gain T n ss i ow) k).2)), (6, .int (nI k)), (8, .int (nI ((q_g1 T n i k (q_gb T n ss i k ow j)).2.1))), (10, .int (nI j))] := by rw [← show nI (q_oth T n i ((q_gb T n ss i k ow j).1)) = nI ((q_g1 T n i k (q_gb T n ss i k ow j)).2.2) from by rw [q_g1T c_93 c_102]]; exact hl
                exact L122 (by first | assumption | exact Nat.zero_le _ | omega) ls (lv_sub hl [2, 3, 4, 5, 6, 7, 8, 0, 9, 1, 10] rfl)
      have hpn := q_pop_n hn7 how hi hno
      refine lv_iload hx hb dX10_place_59 (lv_at hl 6 rfl) ?_
      refine lv_iload_n hx hb dX10_place_61 rfl (lv_at hl 3 rfl) ?_
      refine q_ngt (tgt := 222) hx hb dX10_place_62 (by decide) (by omega) (by omega) (fun c_62 => ?_) (fun c_62 => ?_)
      · refine lv_iload_n hx hb dX10_place_222 rfl (lv_at hl 2 rfl) ?_
        refine lv_if_ne (x := v) (tgt := 231) hx hb dX10_place_223 (by decide) (fun c_223 => ?_) (fun c_223 => ?_)
        · refine lv_iload hx hb dX10_place_231 (lv_at hl 5 rfl) ?_
          refine lv_sipush (v := nI 1000) hx hb dX10_place_233 (by decide) ?_
          refine q_iadd (v := ((q_bb (q_gain T n ss i ow) k).2) + (nI 1000)) hx hb dX10_place_236 (rfl) ?_
          exact q_zret (v := ((q_bb (q_gain T n ss i ow) k).2) + (nI 1000)) hx hb hr hlocks (rfl) (show ((q_bb (q_gain T n ss i ow) k).2) + (nI 1000) = A_place T n ss ow w v from by simp only [A_place, hw, hno]; rw [if_neg (show ¬ v = nI 0 from c_223), if_pos (show v = nI 1 from (of_decide_eq_true hv).elim (fun z => absurd z c_223) id), q_bbE (m := n - pop8 ow - 1) (by omega)]; rfl) dX10_place_237
        · refine lv_iload hx hb dX10_place_226 (lv_at hl 4 rfl) ?_
          refine lv_goto (tgt := 237) hx hb dX10_place_228 (by decide) ?_
          exact q_zret (v := (q_bb (q_gain T n ss i ow) k).1) hx hb hr hlocks (rfl) (show (q_bb (q_gain T n ss i ow) k).1 = A_place T n ss ow w v from by simp only [A_place, hw, hno]; rw [if_pos (show v = nI 0 from c_223), q_bbE (m := n - pop8 ow - 1) (by omega)]; rfl) dX10_place_237
      · refine lv_aload_n hx hb dX10_place_65 rfl (lv_at hl 0 rfl) ?_
        refine q_get (ci := 10) (CC := RX10) (T := TX10) (N := 24) (v := .int (nI ow)) hx hb hts hin10 hown hK hP 0 rfl rfl 8 (by decide) (hts (.fieldLink RX10 107 "DearAsManyModel" "owners" "I") (by decide +kernel)) rfl rfl dX10_place_66 ?_
        refine lv_istore (lv' := [(7, .int (nI ow)), (0, .ref ma), (1, .int (nI i)), (2, .int v), (3, .int (nI (n - pop8 ow - 1))), (4, .int ((q_bb (q_gain T n ss i ow) k).1)), (5, .int ((q_bb (q_gain T n ss i ow) k).2)), (6, .int (nI k))]) hx hb dX10_place_69 hl (by decide) rfl (fun ls hl => ?_)
        refine lv_iconst (v := nI 0) hx hb dX10_place_71 (by decide) ?_
        refine lv_istore (lv' := [(8, .int (nI 0)), (7, .int (nI ow)), (0, .ref ma), (1, .int (nI i)), (2, .int v), (3, .int (nI (n - pop8 ow - 1))), (4, .int ((q_bb (q_gain T n ss i ow) k).1)), (5, .int ((q_bb (q_gain T n ss i ow) k).2)), (6, .int (nI k))]) hx hb dX10_place_72 hl (by decide) rfl (fun ls hl => ?_)
        refine lv_iconst (v := nI 0) hx hb dX10_place_74 (by decide) ?_
        refine lv_istore (lv' := [(9, .int (nI 0)), (8, .int (nI 0)), (7, .int (nI ow)), (0, .ref ma), (1, .int (nI i)), (2, .int v), (3, .int (nI (n - pop8 ow - 1))), (4, .int ((q_bb (q_gain T n ss i ow) k).1)), (5, .int ((q_bb (q_gain T n ss i ow) k).2)), (6, .int (nI k))]) hx hb dX10_place_75 hl (by decide) rfl (fun ls hl => ?_)
        refine lv_iconst (v := nI 0) hx hb dX10_place_77 (by decide) ?_
        refine lv_istore (lv' := [(10, .int (nI 0)), (9, .int (nI 0)), (8, .int (nI 0)), (7, .int (nI ow)), (0, .ref ma), (1, .int (nI i)), (2, .int v), (3, .int (nI (n - pop8 ow - 1))), (4, .int ((q_bb (q_gain T n ss i ow) k).1)), (5, .int ((q_bb (q_gain T n ss i ow) k).2)), (6, .int (nI k))]) hx hb dX10_place_78 hl (by decide) rfl (fun ls hl => ?_)
        exact L80 _ 0 (by first | assumption | exact Nat.zero_le _ | omega) (by first | assumption | exact Nat.zero_le _ | omega) (Nat.lt_succ_self _) ls (lv_sub hl [4, 5, 6, 7, 8, 9, 10, 3, 2, 1, 0] rfl)
  rcases hw : q_ix (n) w with _ | i
  · refine lv_aload_n hx hb dX10_place_0 rfl (lv_at hl 0 rfl) ?_
    refine lv_iload_n hx hb dX10_place_1 rfl (lv_at hl 1 rfl) ?_
    refine q_vi (As := [.int w]) (rest := []) ⟨hx, hb, hml, hown, hts⟩ (c_X10_isPerson l (D := D) (cI := cI) (cB := cB) (cZ := cZ) (ma := ma) (mt := mt) (mk := mk) (mw := mw) (mc := mc) (mh := mh) (mp := mp) (mb := mb) (me := me) (wp0 := wp0) (wo0 := wo0) (wb0 := wb0) (mr := mr) (ml := ml) (tn := tn) (n := n) (ow := ow) (uc := uc) (kc := kc) (sc := sc) (ss := ss) (at0 := at0) (rm0 := rm0) (ro0 := ro0) (rs0 := rs0) (w := w) (by first | assumption | exact Nat.zero_le _ | omega) (by omega)) (cwV 1 hts gX10_place_X10_isPerson rfl rfl rfl (by decide +kernel) ⟨Nat.le_of_ble_eq_true rfl, Nat.le_of_ble_eq_true rfl⟩) hK hP [0] rfl 0 10 rfl rfl rfl rfl hl.1 rfl (Nat.le_of_ble_eq_true rfl) dX10_place_2 ⟨Nat.zero_le _, Nat.zero_le _⟩ (fun r_2 hr_2 => ?_)
    have hr_2 : bI false = r_2 := (Eq.trans (show r_2 = bI ((q_ix n w).isSome) from hr_2) (by rw [hw]; rfl)).symm
    subst hr_2
    refine q_beq (tgt := 18) hx hb dX10_place_5 (by decide) (fun c_5 => ?_) (fun c_5 => ?_)
    · refine lv_iconst (v := (-1 : Int32)) hx hb dX10_place_18 (by decide) ?_
      exact q_zret (v := (-1 : Int32)) hx hb hr hlocks (rfl) (show (-1 : Int32) = A_place T n ss ow w v from by simp only [A_place, hw]) dX10_place_19
    · exact absurd c_5 (by decide)
  · have hwe := q_ixS hw
    have hl : lv_has ls 11 [(0, .ref ma), (1, .int (nI i)), (2, .int v)] := by rw [← show w = nI i from hwe.1]; exact hl
    refine lv_aload_n hx hb dX10_place_0 rfl (lv_at hl 0 rfl) ?_
    refine lv_iload_n hx hb dX10_place_1 rfl (lv_at hl 1 rfl) ?_
    refine q_vi (As := [.int (nI i)]) (rest := []) ⟨hx, hb, hml, hown, hts⟩ (c_X10_isPerson l (D := D) (cI := cI) (cB := cB) (cZ := cZ) (ma := ma) (mt := mt) (mk := mk) (mw := mw) (mc := mc) (mh := mh) (mp := mp) (mb := mb) (me := me) (wp0 := wp0) (wo0 := wo0) (wb0 := wb0) (mr := mr) (ml := ml) (tn := tn) (n := n) (ow := ow) (uc := uc) (kc := kc) (sc := sc) (ss := ss) (at0 := at0) (rm0 := rm0) (ro0 := ro0) (rs0 := rs0) (w := nI i) (by first | assumption | exact Nat.zero_le _ | omega) (by omega)) (cwV 1 hts gX10_place_X10_isPerson rfl rfl rfl (by decide +kernel) ⟨Nat.le_of_ble_eq_true rfl, Nat.le_of_ble_eq_true rfl⟩) hK hP [0] rfl 0 10 rfl rfl rfl rfl hl.1 rfl (Nat.le_of_ble_eq_true rfl) dX10_place_2 ⟨Nat.zero_le _, Nat.zero_le _⟩ (fun r_2 hr_2 => ?_)
    have hr_2 : bI true = r_2 := (Eq.trans (show r_2 = bI ((q_ix n (nI i)).isSome) from hr_2) (by rw [q_ixI hwe.2 (by omega)]; rfl)).symm
    subst hr_2
    refine q_beq (tgt := 18) hx hb dX10_place_5 (by decide) (fun c_5 => ?_) (fun c_5 => ?_)
    · exact absurd c_5 (by decide)
    · refine lv_iload_n hx hb dX10_place_8 rfl (lv_at hl 2 rfl) ?_
      refine lv_i2l (v := v.toInt64) hx hb dX10_place_9 (rfl) ?_
      refine lv_lconst (v := (0 : Int64)) hx hb dX10_place_10 (by decide) ?_
      refine lv_lconst (v := (1 : Int64)) hx hb dX10_place_11 (by decide) ?_
      refine q_si (As := [.long v.toInt64, .long (0 : Int64), .long (1 : Int64)]) (rest := []) ⟨hx, hb, hml, hown, hts⟩ (c_X10_in l (D := D) (cI := cI) (cB := cB) (cZ := cZ) (a1 := v.toInt64) (b1 := (0 : Int64)) (c1 := (1 : Int64)) ) (va_cwS 3 hts gX10_place_X10_in rfl rfl rfl (by decide +kernel) ⟨Nat.le_of_ble_eq_true rfl, Nat.le_of_ble_eq_true rfl⟩) hK hP [] rfl rfl hl.1 rfl (Nat.le_of_ble_eq_true rfl) dX10_place_12 ⟨Nat.zero_le _, Nat.zero_le _⟩ (fun r_12 hr_12 => ?_)
      have hr_12 : bI (q_eit v) = r_12 := (Eq.trans (show r_12 = bI (q_inb v.toInt64 (0 : Int64) (1 : Int64)) from hr_12) (q_inEit _)).symm
      subst hr_12
      refine q_bne (tgt := 20) hx hb dX10_place_15 (by decide) (fun c_15 => ?_) (fun c_15 => ?_)
      · refine lv_aload_n hx hb dX10_place_20 rfl (lv_at hl 0 rfl) ?_
        refine q_get (ci := 10) (CC := RX10) (T := TX10) (N := 24) (v := .int (nI ow)) hx hb hts hin10 hown hK hP 0 rfl rfl 8 (by decide) (hts (.fieldLink RX10 107 "DearAsManyModel" "owners" "I") (by decide +kernel)) rfl rfl dX10_place_21 ?_
        refine lv_iload_n hx hb dX10_place_24 rfl (lv_at hl 1 rfl) ?_
        refine q_si (As := [.int (nI ow), .int (nI i)]) (rest := []) ⟨hx, hb, hml, hown, hts⟩ (c_X10_has l (D := D) (cI := cI) (cB := cB) (cZ := cZ) (S := ow) (i := i) (by omega) (by omega)) (va_cwS 2 hts gX10_place_X10_has rfl rfl rfl (by decide +kernel) ⟨Nat.le_of_ble_eq_true rfl, Nat.le_of_ble_eq_true rfl⟩) hK hP [] rfl rfl hl.1 rfl (Nat.le_of_ble_eq_true rfl) dX10_place_25 ⟨Nat.zero_le _, Nat.zero_le _⟩ (fun r_25 hr_25 => ?_)
        have hr_25 : bI (ow.testBit i) = r_25 := (show r_25 = bI (ow.testBit i) from hr_25).symm
        subst hr_25
        refine q_beq (tgt := 34) hx hb dX10_place_28 (by decide) (fun c_28 => ?_) (fun c_28 => ?_)
        · refine lv_aload_n hx hb dX10_place_34 rfl (lv_at hl 0 rfl) ?_
          refine q_get (ci := 10) (CC := RX10) (T := TX10) (N := 24) (v := .int (nI n)) hx hb hts hin10 hown hK hP 0 rfl rfl 2 (by decide) (hts (.fieldLink RX10 13 "DearAsManyModel" "many" "I") (by decide +kernel)) rfl rfl dX10_place_35 ?_
          refine lv_iconst (v := nI 1) hx hb dX10_place_38 (by decide) ?_
          refine q_isub (v := nI (n - 1)) hx hb dX10_place_39 (q_sub hn1) ?_
          refine lv_aload_n hx hb dX10_place_40 rfl (lv_at hl 0 rfl) ?_
          refine q_get (ci := 10) (CC := RX10) (T := TX10) (N := 24) (v := .int (nI ow)) hx hb hts hin10 hown hK hP 0 rfl rfl 8 (by decide) (hts (.fieldLink RX10 107 "DearAsManyModel" "owners" "I") (by decide +kernel)) rfl rfl dX10_place_41 ?_
          refine q_si (As := [.int (nI ow)]) (rest := [.int (nI (n - 1))]) ⟨hx, hb, hml, hown, hts⟩ (c_X10_bits l (D := D) (cI := cI) (cB := cB) (cZ := cZ) (S := ow) (by omega)) (va_cwS 1 hts gX10_place_X10_bits rfl rfl rfl (by decide +kernel) ⟨Nat.le_of_ble_eq_true rfl, Nat.le_of_ble_eq_true rfl⟩) hK hP [] rfl rfl hl.1 rfl (Nat.le_of_ble_eq_true rfl) dX10_place_44 ⟨Nat.zero_le _, Nat.zero_le _⟩ (fun r_44 hr_44 => ?_)
          have hr_44 : nI (pop8 ow) = r_44 := (show r_44 = nI (pop8 ow) from hr_44).symm
          subst hr_44
          refine q_isub (v := nI (n - pop8 ow - 1)) hx hb dX10_place_47 ((q_sub (by have := q_pop_n hn7 how hwe.2 c_28; omega)).trans (congrArg nI (by omega))) ?_
          refine lv_istore_n (lv' := [(3, .int (nI (n - pop8 ow - 1))), (0, .ref ma), (1, .int (nI i)), (2, .int v)]) hx hb dX10_place_48 rfl hl (by decide) rfl (fun ls hl => ?_)
          refine lv_bipush (v := (-4 : Int32)) hx hb dX10_place_49 (by decide) ?_
          refine lv_istore (lv' := [(4, .int (-4 : Int32)), (3, .int (nI (n - pop8 ow - 1))), (0, .ref ma), (1, .int (nI i)), (2, .int v)]) hx hb dX10_place_51 hl (by decide) rfl (fun ls hl => ?_)
          refine lv_iconst (v := nI 0) hx hb dX10_place_53 (by decide) ?_
          refine lv_istore (lv' := [(5, .int (nI 0)), (4, .int (-4 : Int32)), (3, .int (nI (n - pop8 ow - 1))), (0, .ref ma), (1, .int (nI i)), (2, .int v)]) hx hb dX10_place_54 hl (by decide) rfl (fun ls hl => ?_)
          refine lv_iconst (v := nI 0) hx hb dX10_place_56 (by decide) ?_
          refine lv_istore (lv' := [(6, .int (nI 0)), (5, .int (nI 0)), (4, .int (-4 : Int32)), (3, .int (nI (n - pop8 ow - 1))), (0, .ref ma), (1, .int (nI i)), (2, .int v)]) hx hb dX10_place_57 hl (by decide) rfl (fun ls hl => ?_)
          exact L59 _ 0 i (hw) (hwe.2) (c_15) (c_28) (Nat.zero_le _) (Nat.lt_succ_self _) ls (lv_sub hl [4, 5, 6, 3, 2, 1, 0] rfl)
        · refine lv_bipush (v := (-2 : Int32)) hx hb dX10_place_31 (by decide) ?_
          exact q_zret (v := (-2 : Int32)) hx hb hr hlocks (rfl) (show (-2 : Int32) = A_place T n ss ow w v from by simp only [A_place, hw, c_28]; rcases (of_decide_eq_true c_15) with z | z; (rw [if_pos (show v = nI 0 from z)]; rfl); (rw [if_neg (by rw [z]; decide), if_pos (show v = nI 1 from z)]; rfl)) dX10_place_33
      · refine lv_iconst (v := (-1 : Int32)) hx hb dX10_place_18 (by decide) ?_
        exact q_zret (v := (-1 : Int32)) hx hb hr hlocks (rfl) (show (-1 : Int32) = A_place T n ss ow w v from by simp only [A_place, hw]; rw [if_neg (q_eitN c_15).1, if_neg (q_eitN c_15).2]) dX10_place_19

set_option maxHeartbeats 4000000 in
set_option maxRecDepth 100000 in
theorem c_X10_burn (l : Launch) {D : va_G} {cI cB cZ : ClassId} {ma : Nat} {mt : Nat} {mk : Nat} {mw : Nat} {mc : Nat} {mh : Nat} {mp : Nat} {mb : Nat} {me : Nat} {wp0 : Nat} {wo0 : Nat} {wb0 : Nat} {mr : Nat} {ml : Nat} {tn : Nat} {n : Nat} {ow : Nat} {uc : Nat} {kc : Nat} {sc : Nat} {ss : Int32} {at0 : Int32} {rm0 : Int32} {ro0 : Int32} {rs0 : Int32} {mK : Nat → Int32} {mW : Nat → Int32} {mC : Nat → Int32} {mH : Nat → Int32} {T : Nat → Nat → Nat} {w : Int32} (hMT : q_MT T n mK mW mC mH) (hB : q_Bd T n) (hn1 : 1 ≤ n) (how : ow < 2 ^ n) : Met l yX10_burn wsX10_burn ({ frames := 5, cells := 0, slots := 0, locals := 112 } : Room) (va_Pc [.ref ma, .int w] (q_B D (q_tys cI cB cZ) [(ma, .inr (10, [.ref mt, .int (nI tn), .int (nI n), .ref mk, .ref mw, .ref mc, .ref mh, .ref mp, .int (nI ow), .int ss, .int (nI uc), .ref mb, .int (nI kc), .ref me, .int (nI sc), .ref wp0, .ref wo0, .ref wb0, .int at0, .int rm0, .int ro0, .int rs0, .ref mr, .ref ml])), (mk, .inl (cI, 7, .inl mK)), (mw, .inl (cI, 7, .inl mW)), (mc, .inl (cI, 7, .inl mC)), (mh, .inl (cI, 7, .inl mH))])) (vp_Si (fun r => r = A_burn T n ss ow w)) 0 0 (fun _ => False) := by
  refine Met.ofW (cc := cX10_burn) (maxL := 5) (ret := (some .int)) (by decide) rfl ?_
  intro p e s m args below meth c s₁ B hml hv
  obtain ⟨rfl, hP, hK⟩ := hv
  have hx := B.exec
  have hb := B.bytes
  have hr := B.returns
  have hts := atoms_spec (ws := wsX10_burn) B.pre
  have hown : s.vm.findClass RX10 = some m.cls := findClass_of_methodNamed B.named
  have hlocks := B.notSynchronized
  have hin10 : ∀ w ∈ u_ws RX10 TX10 24, w ∈ wsX10_burn := by decide +kernel
  have hP : va_P D vwCl [(ma, .inr (10, [.ref mt, .int (nI tn), .int (nI n), .ref mk, .ref mw, .ref mc, .ref mh, .ref mp, .int (nI ow), .int ss, .int (nI uc), .ref mb, .int (nI kc), .ref me, .int (nI sc), .ref wp0, .ref wo0, .ref wb0, .int at0, .int rm0, .int ro0, .int rs0, .ref mr, .ref ml])), (mk, .inl (cI, 7, .inl mK)), (mw, .inl (cI, 7, .inl mW)), (mc, .inl (cI, 7, .inl mC)), (mh, .inl (cI, 7, .inl mH))] s.heap := hP
  have hl := lv_entry ([.ref ma, .int w]) (n := 5) (Nat.le_of_ble_eq_true rfl)
  rw [lg_entry_eq]
  generalize (lg_sl ([.ref ma, .int w]) ++ List.replicate (5 - (lg_sl ([.ref ma, .int w])).length) Slot.unset).toArray = ls at hl ⊢
  have hl : lv_has ls 5 [(0, .ref ma), (1, .int w)] := hl
  have hn7 := hB.1
  have hp2 : 2 ^ n ≤ 128 := q_p2 hB.1
  have ho128 := q_S128 hB how
  have hpp := Nat.two_pow_pos n
  have L29 : ∀ (fuel : Nat) (sv : Nat) (i : Nat) (hw : q_ix n w = some i) (hi : i < n) (hno : ow.testBit i = false) (hs : sv ≤ 2 ^ n) (hf : 2 ^ n - sv < fuel) (ls : Array Slot) (hl : lv_has ls 5 [(0, .ref ma), (1, .int (nI i)), (2, .int (q_oc (q_min (q_bn T n ss i ow) sv))), (3, .int (nI sv))]), W p l e (headSpec wsX10_burn ({ frames := 5, cells := 0, slots := 0, locals := 112 } : Room)).room s m ([.ref ma, .int w] : List Value).toArray below meth c s.heap [] 0 0 (MQ below (vp_Si (fun r => r = A_burn T n ss ow w)) ([.ref ma, .int w] : List Value).toArray s 0 0 (fun _ => False)) (F0 m 29 ls []) := by
    intro fuel
    induction fuel with
    | zero =>
      intro sv i hw hi hno hs hf ls hl
      exact absurd hf (Nat.not_lt_zero _)
    | succ fuel ih29 =>
      intro sv i hw hi hno hs hf ls hl
      refine lv_iload_n hx hb dX10_burn_29 rfl (lv_at hl 3 rfl) ?_
      refine lv_aload_n hx hb dX10_burn_30 rfl (lv_at hl 0 rfl) ?_
      refine q_vi (As := []) (rest := [.int (nI sv)]) ⟨hx, hb, hml, hown, hts⟩ (c_X10_all l (D := D) (cI := cI) (cB := cB) (cZ := cZ) (ma := ma) (mt := mt) (mk := mk) (mw := mw) (mc := mc) (mh := mh) (mp := mp) (mb := mb) (me := me) (wp0 := wp0) (wo0 := wo0) (wb0 := wb0) (mr := mr) (ml := ml) (tn := tn) (n := n) (ow := ow) (uc := uc) (kc := kc) (sc := sc) (ss := ss) (at0 := at0) (rm0 := rm0) (ro0 := ro0) (rs0 := rs0) (by omega)) (cwV 0 hts gX10_burn_X10_all rfl rfl rfl (by decide +kernel) ⟨Nat.le_of_ble_eq_true rfl, Nat.le_of_ble_eq_true rfl⟩) hK hP [0] rfl 0 10 rfl rfl rfl rfl hl.1 rfl (Nat.le_of_ble_eq_true rfl) dX10_burn_31 ⟨Nat.zero_le _, Nat.zero_le _⟩ (fun r_31 hr_31 => ?_)
      have hr_31 : nI (2 ^ n - 1) = r_31 := (show r_31 = nI (2 ^ n - 1) from hr_31).symm
      subst hr_31
      refine q_ngt (tgt := 105) hx hb dX10_burn_34 (by decide) (by omega) (by omega) (fun c_34 => ?_) (fun c_34 => ?_)
      · refine lv_iload_n hx hb dX10_burn_105 rfl (lv_at hl 2 rfl) ?_
        exact q_zret (v := q_oc (q_min (q_bn T n ss i ow) sv)) hx hb hr hlocks (rfl) (show q_oc (q_min (q_bn T n ss i ow) sv) = A_burn T n ss ow w from by simp only [A_burn, hw, hno]; rw [if_neg (by decide), show sv = 2 ^ n from by omega, q_bn_cut ho128 hp2 how]) dX10_burn_106
      · refine lv_iload_n hx hb dX10_burn_37 rfl (lv_at hl 3 rfl) ?_
        refine lv_aload_n hx hb dX10_burn_38 rfl (lv_at hl 0 rfl) ?_
        refine q_get (ci := 10) (CC := RX10) (T := TX10) (N := 24) (v := .int (nI ow)) hx hb hts hin10 hown hK hP 0 rfl rfl 8 (by decide) (hts (.fieldLink RX10 107 "DearAsManyModel" "owners" "I") (by decide +kernel)) rfl rfl dX10_burn_39 ?_
        refine lv_iconst (v := (-1 : Int32)) hx hb dX10_burn_42 (by decide) ?_
        refine q_ixor (v := (nI ow) ^^^ (-1 : Int32)) hx hb dX10_burn_43 (rfl) ?_
        refine q_iand (v := nI (q_nd sv ow)) hx hb dX10_burn_44 (q_ndI (by omega) ho128) ?_
        refine q_zne (tgt := 68) hx hb dX10_burn_45 (by decide) (by have := q_nd_le sv ow; omega) (fun c_45 => ?_) (fun c_45 => ?_)
        · refine lv_iconst (v := nI 0) hx hb dX10_burn_68 (by decide) ?_
          refine lv_istore (lv' := [(4, .int (nI 0)), (0, .ref ma), (1, .int (nI i)), (2, .int (q_oc (q_min (q_bn T n ss i ow) sv))), (3, .int (nI sv))]) hx hb dX10_burn_69 hl (by decide) rfl (fun ls hl => ?_)
          refine lv_iload hx hb dX10_burn_71 (lv_at hl 0 rfl) ?_
          refine q_zeq (tgt := 97) hx hb dX10_burn_73 (by decide) (by omega) (fun c_73 => ?_) (fun c_73 => ?_)
          · refine lv_iload_n hx hb dX10_burn_97 rfl (lv_at hl 3 rfl) ?_
            refine lv_istore_n (lv' := [(2, .int (q_oc (q_min (q_bn T n ss i ow) sv))), (4, .int (nI 0)), (0, .ref ma), (1, .int (nI i)), (3, .int (nI sv))]) hx hb dX10_burn_98 rfl hl (by decide) rfl (fun ls hl => ?_)
            refine lv_iinc (v := nI (sv + 1)) (lv' := [(3, .int (nI (sv + 1))), (2, .int (q_oc (q_min (q_bn T n ss i ow) sv))), (4, .int (nI 0)), (0, .ref ma), (1, .int (nI i))]) hx hb dX10_burn_99 hl (k := 4) rfl (nI_add _ 1) (by decide) rfl (fun ls hl => ?_)
            refine lv_goto (tgt := 29) hx hb dX10_burn_102 (by decide) ?_
            have hl : lv_has ls 5 [(3, .int (nI (sv + 1))), (2, .int (q_oc (q_min (q_bn T n ss i ow) (sv + 1)))), (4, .int (nI 0)), (0, .ref ma), (1, .int (nI i))] := by rw [← show q_oc (q_min (q_bn T n ss i ow) sv) = q_oc (q_min (q_bn T n ss i ow) (sv + 1)) from by rw [q_minF (P := (q_bn T n ss i ow)) (s := sv) (q_bnG c_45)]]; exact hl
            exact ih29 (sv + 1) i (hw) (hi) (hno) (by omega) (by omega) ls (lv_sub hl [3, 4, 1, 0] rfl)
          · exact absurd c_73 (by decide)
        · refine lv_aload_n hx hb dX10_burn_48 rfl (lv_at hl 0 rfl) ?_
          refine lv_iload_n hx hb dX10_burn_49 rfl (lv_at hl 1 rfl) ?_
          refine lv_aload_n hx hb dX10_burn_50 rfl (lv_at hl 0 rfl) ?_
          refine q_get (ci := 10) (CC := RX10) (T := TX10) (N := 24) (v := .int (nI ow)) hx hb hts hin10 hown hK hP 0 rfl rfl 8 (by decide) (hts (.fieldLink RX10 107 "DearAsManyModel" "owners" "I") (by decide +kernel)) rfl rfl dX10_burn_51 ?_
          refine lv_iload_n hx hb dX10_burn_54 rfl (lv_at hl 3 rfl) ?_
          refine lv_iconst (v := (-1 : Int32)) hx hb dX10_burn_55 (by decide) ?_
          refine q_ixor (v := (nI sv) ^^^ (-1 : Int32)) hx hb dX10_burn_56 (rfl) ?_
          refine q_iand (v := nI (q_nd ow sv)) hx hb dX10_burn_57 (q_ndI ho128 (by omega)) ?_
          refine q_vi (As := [.int (nI i), .int (nI (q_nd ow sv))]) (rest := []) ⟨hx, hb, hml, hown, hts⟩ (c_X10_wouldBuy l (D := D) (cI := cI) (cB := cB) (cZ := cZ) (ma := ma) (mt := mt) (mk := mk) (mw := mw) (mc := mc) (mh := mh) (mp := mp) (mb := mb) (me := me) (wp0 := wp0) (wo0 := wo0) (wb0 := wb0) (mr := mr) (ml := ml) (tn := tn) (n := n) (ow := ow) (uc := uc) (kc := kc) (sc := sc) (ss := ss) (at0 := at0) (rm0 := rm0) (ro0 := ro0) (rs0 := rs0) (mK := mK) (mW := mW) (mC := mC) (mH := mH) (T := T) (i := i) (S := q_nd ow sv) (by first | assumption | exact Nat.zero_le _ | omega) (by first | assumption | exact Nat.zero_le _ | omega) (by first | assumption | exact Nat.zero_le _ | omega) (by first | assumption | exact Nat.zero_le _ | omega) (Nat.lt_of_le_of_lt (q_nd_le _ _) how)) (cwV 2 hts gX10_burn_X10_wouldBuy rfl rfl rfl (by decide +kernel) ⟨Nat.le_of_ble_eq_true rfl, Nat.le_of_ble_eq_true rfl⟩) hK hP [0, 1, 2, 3, 4] rfl 0 10 rfl rfl rfl rfl hl.1 rfl (Nat.le_of_ble_eq_true rfl) dX10_burn_58 ⟨Nat.zero_le _, Nat.zero_le _⟩ (fun r_58 hr_58 => ?_)
          have hr_58 : bI (q_wB T n ss i (q_nd ow sv)) = r_58 := (show r_58 = bI (q_wB T n ss i (q_nd ow sv)) from hr_58).symm
          subst hr_58
          refine q_beq (tgt := 68) hx hb dX10_burn_61 (by decide) (fun c_61 => ?_) (fun c_61 => ?_)
          · refine lv_iconst (v := nI 0) hx hb dX10_burn_68 (by decide) ?_
            refine lv_istore (lv' := [(4, .int (nI 0)), (0, .ref ma), (1, .int (nI i)), (2, .int (q_oc (q_min (q_bn T n ss i ow) sv))), (3, .int (nI sv))]) hx hb dX10_burn_69 hl (by decide) rfl (fun ls hl => ?_)
            refine lv_iload hx hb dX10_burn_71 (lv_at hl 0 rfl) ?_
            refine q_zeq (tgt := 97) hx hb dX10_burn_73 (by decide) (by omega) (fun c_73 => ?_) (fun c_73 => ?_)
            · refine lv_iload_n hx hb dX10_burn_97 rfl (lv_at hl 3 rfl) ?_
              refine lv_istore_n (lv' := [(2, .int (q_oc (q_min (q_bn T n ss i ow) sv))), (4, .int (nI 0)), (0, .ref ma), (1, .int (nI i)), (3, .int (nI sv))]) hx hb dX10_burn_98 rfl hl (by decide) rfl (fun ls hl => ?_)
              refine lv_iinc (v := nI (sv + 1)) (lv' := [(3, .int (nI (sv + 1))), (2, .int (q_oc (q_min (q_bn T n ss i ow) sv))), (4, .int (nI 0)), (0, .ref ma), (1, .int (nI i))]) hx hb dX10_burn_99 hl (k := 4) rfl (nI_add _ 1) (by decide) rfl (fun ls hl => ?_)
              refine lv_goto (tgt := 29) hx hb dX10_burn_102 (by decide) ?_
              have hl : lv_has ls 5 [(3, .int (nI (sv + 1))), (2, .int (q_oc (q_min (q_bn T n ss i ow) (sv + 1)))), (4, .int (nI 0)), (0, .ref ma), (1, .int (nI i))] := by rw [← show q_oc (q_min (q_bn T n ss i ow) sv) = q_oc (q_min (q_bn T n ss i ow) (sv + 1)) from by rw [q_minF (P := (q_bn T n ss i ow)) (s := sv) (q_bnV hno c_61)]]; exact hl
              exact ih29 (sv + 1) i (hw) (hi) (hno) (by omega) (by omega) ls (lv_sub hl [3, 4, 1, 0] rfl)
            · exact absurd c_73 (by decide)
          · refine lv_iconst (v := nI 1) hx hb dX10_burn_64 (by decide) ?_
            refine lv_goto (tgt := 69) hx hb dX10_burn_65 (by decide) ?_
            refine lv_istore (lv' := [(4, .int (nI 1)), (0, .ref ma), (1, .int (nI i)), (2, .int (q_oc (q_min (q_bn T n ss i ow) sv))), (3, .int (nI sv))]) hx hb dX10_burn_69 hl (by decide) rfl (fun ls hl => ?_)
            refine lv_iload hx hb dX10_burn_71 (lv_at hl 0 rfl) ?_
            refine q_zeq (tgt := 97) hx hb dX10_burn_73 (by decide) (by omega) (fun c_73 => ?_) (fun c_73 => ?_)
            · exact absurd c_73 (by decide)
            · rcases hm9 : q_min (q_bn T n ss i ow) sv with _ | b3
              · have hl : lv_has ls 5 [(4, .int (nI 1)), (0, .ref ma), (1, .int (nI i)), (2, .int (-4 : Int32)), (3, .int (nI sv))] := by rw [← show q_oc (q_min (q_bn T n ss i ow) sv) = (-4 : Int32) from by rw [hm9]; rfl]; exact hl
                refine lv_iload_n hx hb dX10_burn_76 rfl (lv_at hl 3 rfl) ?_
                refine lv_bipush (v := (-4 : Int32)) hx hb dX10_burn_77 (by decide) ?_
                refine lv_icmp_eq (x := (-4 : Int32)) (y := (-4 : Int32)) (tgt := 93) hx hb dX10_burn_79 (by decide) (fun c_79 => ?_) (fun c_79 => ?_)
                · refine lv_iload_n hx hb dX10_burn_93 rfl (lv_at hl 4 rfl) ?_
                  refine lv_goto (tgt := 98) hx hb dX10_burn_94 (by decide) ?_
                  refine lv_istore_n (lv' := [(2, .int (nI sv)), (4, .int (nI 1)), (0, .ref ma), (1, .int (nI i)), (3, .int (nI sv))]) hx hb dX10_burn_98 rfl hl (by decide) rfl (fun ls hl => ?_)
                  refine lv_iinc (v := nI (sv + 1)) (lv' := [(3, .int (nI (sv + 1))), (2, .int (nI sv)), (4, .int (nI 1)), (0, .ref ma), (1, .int (nI i))]) hx hb dX10_burn_99 hl (k := 4) rfl (nI_add _ 1) (by decide) rfl (fun ls hl => ?_)
                  refine lv_goto (tgt := 29) hx hb dX10_burn_102 (by decide) ?_
                  have hl : lv_has ls 5 [(3, .int (nI (sv + 1))), (2, .int (q_oc (q_min (q_bn T n ss i ow) (sv + 1)))), (4, .int (nI 1)), (0, .ref ma), (1, .int (nI i))] := by rw [← show nI sv = q_oc (q_min (q_bn T n ss i ow) (sv + 1)) from by rw [q_mN1 hm9 (q_bnU hno c_45 c_61)]; rfl]; exact hl
                  exact ih29 (sv + 1) i (hw) (hi) (hno) (by omega) (by omega) ls (lv_sub hl [3, 4, 1, 0] rfl)
                · exact absurd c_79 ((fun z => z rfl))
              · have hl : lv_has ls 5 [(4, .int (nI 1)), (0, .ref ma), (1, .int (nI i)), (2, .int (nI b3)), (3, .int (nI sv))] := by rw [← show q_oc (q_min (q_bn T n ss i ow) sv) = nI b3 from by rw [hm9]; rfl]; exact hl
                refine lv_iload_n hx hb dX10_burn_76 rfl (lv_at hl 3 rfl) ?_
                refine lv_bipush (v := (-4 : Int32)) hx hb dX10_burn_77 (by decide) ?_
                refine lv_icmp_eq (x := nI b3) (y := (-4 : Int32)) (tgt := 93) hx hb dX10_burn_79 (by decide) (fun c_79 => ?_) (fun c_79 => ?_)
                · exact absurd c_79 ((q_m4ne (by have := q_min_lt hm9; omega)))
                · refine lv_iload_n hx hb dX10_burn_82 rfl (lv_at hl 4 rfl) ?_
                  refine q_si (As := [.int (nI sv)]) (rest := []) ⟨hx, hb, hml, hown, hts⟩ (c_X10_bits l (D := D) (cI := cI) (cB := cB) (cZ := cZ) (S := sv) (by omega)) (va_cwS 1 hts gX10_burn_X10_bits rfl rfl rfl (by decide +kernel) ⟨Nat.le_of_ble_eq_true rfl, Nat.le_of_ble_eq_true rfl⟩) hK hP [] rfl rfl hl.1 rfl (Nat.le_of_ble_eq_true rfl) dX10_burn_83 ⟨Nat.zero_le _, Nat.zero_le _⟩ (fun r_83 hr_83 => ?_)
                  have hr_83 : nI (pop8 sv) = r_83 := (show r_83 = nI (pop8 sv) from hr_83).symm
                  subst hr_83
                  refine lv_iload_n hx hb dX10_burn_86 rfl (lv_at hl 3 rfl) ?_
                  refine q_si (As := [.int (nI b3)]) (rest := [.int (nI (pop8 sv))]) ⟨hx, hb, hml, hown, hts⟩ (c_X10_bits l (D := D) (cI := cI) (cB := cB) (cZ := cZ) (S := b3) (by have := q_min_lt hm9; omega)) (va_cwS 1 hts gX10_burn_X10_bits rfl rfl rfl (by decide +kernel) ⟨Nat.le_of_ble_eq_true rfl, Nat.le_of_ble_eq_true rfl⟩) hK hP [] rfl rfl hl.1 rfl (Nat.le_of_ble_eq_true rfl) dX10_burn_87 ⟨Nat.zero_le _, Nat.zero_le _⟩ (fun r_87 hr_87 => ?_)
                  have hr_87 : nI (pop8 b3) = r_87 := (show r_87 = nI (pop8 b3) from hr_87).symm
                  subst hr_87
                  refine q_nge (tgt := 97) hx hb dX10_burn_90 (by decide) (by have := pop8_le sv; omega) (by have := pop8_le b3; omega) (fun c_90 => ?_) (fun c_90 => ?_)
                  · refine lv_iload_n hx hb dX10_burn_97 rfl (lv_at hl 3 rfl) ?_
                    refine lv_istore_n (lv' := [(2, .int (nI b3)), (4, .int (nI 1)), (0, .ref ma), (1, .int (nI i)), (3, .int (nI sv))]) hx hb dX10_burn_98 rfl hl (by decide) rfl (fun ls hl => ?_)
                    refine lv_iinc (v := nI (sv + 1)) (lv' := [(3, .int (nI (sv + 1))), (2, .int (nI b3)), (4, .int (nI 1)), (0, .ref ma), (1, .int (nI i))]) hx hb dX10_burn_99 hl (k := 4) rfl (nI_add _ 1) (by decide) rfl (fun ls hl => ?_)
                    refine lv_goto (tgt := 29) hx hb dX10_burn_102 (by decide) ?_
                    have hl : lv_has ls 5 [(3, .int (nI (sv + 1))), (2, .int (q_oc (q_min (q_bn T n ss i ow) (sv + 1)))), (4, .int (nI 1)), (0, .ref ma), (1, .int (nI i))] := by rw [← show nI b3 = q_oc (q_min (q_bn T n ss i ow) (sv + 1)) from by rw [q_mS2 hm9 (Nat.not_lt.mpr c_90)]; rfl]; exact hl
                    exact ih29 (sv + 1) i (hw) (hi) (hno) (by omega) (by omega) ls (lv_sub hl [3, 4, 1, 0] rfl)
                  · refine lv_iload_n hx hb dX10_burn_93 rfl (lv_at hl 4 rfl) ?_
                    refine lv_goto (tgt := 98) hx hb dX10_burn_94 (by decide) ?_
                    refine lv_istore_n (lv' := [(2, .int (nI sv)), (4, .int (nI 1)), (0, .ref ma), (1, .int (nI i)), (3, .int (nI sv))]) hx hb dX10_burn_98 rfl hl (by decide) rfl (fun ls hl => ?_)
                    refine lv_iinc (v := nI (sv + 1)) (lv' := [(3, .int (nI (sv + 1))), (2, .int (nI sv)), (4, .int (nI 1)), (0, .ref ma), (1, .int (nI i))]) hx hb dX10_burn_99 hl (k := 4) rfl (nI_add _ 1) (by decide) rfl (fun ls hl => ?_)
                    refine lv_goto (tgt := 29) hx hb dX10_burn_102 (by decide) ?_
                    have hl : lv_has ls 5 [(3, .int (nI (sv + 1))), (2, .int (q_oc (q_min (q_bn T n ss i ow) (sv + 1)))), (4, .int (nI 1)), (0, .ref ma), (1, .int (nI i))] := by rw [← show nI sv = q_oc (q_min (q_bn T n ss i ow) (sv + 1)) from by rw [q_mS1 hm9 (q_bnU hno c_45 c_61) (by omega)]; rfl]; exact hl
                    exact ih29 (sv + 1) i (hw) (hi) (hno) (by omega) (by omega) ls (lv_sub hl [3, 4, 1, 0] rfl)
  rcases hw : q_ix (n) w with _ | i
  · refine lv_aload_n hx hb dX10_burn_0 rfl (lv_at hl 0 rfl) ?_
    refine lv_iload_n hx hb dX10_burn_1 rfl (lv_at hl 1 rfl) ?_
    refine q_vi (As := [.int w]) (rest := []) ⟨hx, hb, hml, hown, hts⟩ (c_X10_isPerson l (D := D) (cI := cI) (cB := cB) (cZ := cZ) (ma := ma) (mt := mt) (mk := mk) (mw := mw) (mc := mc) (mh := mh) (mp := mp) (mb := mb) (me := me) (wp0 := wp0) (wo0 := wo0) (wb0 := wb0) (mr := mr) (ml := ml) (tn := tn) (n := n) (ow := ow) (uc := uc) (kc := kc) (sc := sc) (ss := ss) (at0 := at0) (rm0 := rm0) (ro0 := ro0) (rs0 := rs0) (w := w) (by first | assumption | exact Nat.zero_le _ | omega) (by omega)) (cwV 1 hts gX10_burn_X10_isPerson rfl rfl rfl (by decide +kernel) ⟨Nat.le_of_ble_eq_true rfl, Nat.le_of_ble_eq_true rfl⟩) hK hP [0] rfl 0 10 rfl rfl rfl rfl hl.1 rfl (Nat.le_of_ble_eq_true rfl) dX10_burn_2 ⟨Nat.zero_le _, Nat.zero_le _⟩ (fun r_2 hr_2 => ?_)
    have hr_2 : bI false = r_2 := (Eq.trans (show r_2 = bI ((q_ix n w).isSome) from hr_2) (by rw [hw]; rfl)).symm
    subst hr_2
    refine q_bne (tgt := 10) hx hb dX10_burn_5 (by decide) (fun c_5 => ?_) (fun c_5 => ?_)
    · exact absurd c_5 (by decide)
    · refine lv_iconst (v := (-1 : Int32)) hx hb dX10_burn_8 (by decide) ?_
      exact q_zret (v := (-1 : Int32)) hx hb hr hlocks (rfl) (show (-1 : Int32) = A_burn T n ss ow w from by simp only [A_burn, hw]) dX10_burn_9
  · have hwe := q_ixS hw
    have hl : lv_has ls 5 [(0, .ref ma), (1, .int (nI i))] := by rw [← show w = nI i from hwe.1]; exact hl
    refine lv_aload_n hx hb dX10_burn_0 rfl (lv_at hl 0 rfl) ?_
    refine lv_iload_n hx hb dX10_burn_1 rfl (lv_at hl 1 rfl) ?_
    refine q_vi (As := [.int (nI i)]) (rest := []) ⟨hx, hb, hml, hown, hts⟩ (c_X10_isPerson l (D := D) (cI := cI) (cB := cB) (cZ := cZ) (ma := ma) (mt := mt) (mk := mk) (mw := mw) (mc := mc) (mh := mh) (mp := mp) (mb := mb) (me := me) (wp0 := wp0) (wo0 := wo0) (wb0 := wb0) (mr := mr) (ml := ml) (tn := tn) (n := n) (ow := ow) (uc := uc) (kc := kc) (sc := sc) (ss := ss) (at0 := at0) (rm0 := rm0) (ro0 := ro0) (rs0 := rs0) (w := nI i) (by first | assumption | exact Nat.zero_le _ | omega) (by omega)) (cwV 1 hts gX10_burn_X10_isPerson rfl rfl rfl (by decide +kernel) ⟨Nat.le_of_ble_eq_true rfl, Nat.le_of_ble_eq_true rfl⟩) hK hP [0] rfl 0 10 rfl rfl rfl rfl hl.1 rfl (Nat.le_of_ble_eq_true rfl) dX10_burn_2 ⟨Nat.zero_le _, Nat.zero_le _⟩ (fun r_2 hr_2 => ?_)
    have hr_2 : bI true = r_2 := (Eq.trans (show r_2 = bI ((q_ix n (nI i)).isSome) from hr_2) (by rw [q_ixI hwe.2 (by omega)]; rfl)).symm
    subst hr_2
    refine q_bne (tgt := 10) hx hb dX10_burn_5 (by decide) (fun c_5 => ?_) (fun c_5 => ?_)
    · refine lv_aload_n hx hb dX10_burn_10 rfl (lv_at hl 0 rfl) ?_
      refine q_get (ci := 10) (CC := RX10) (T := TX10) (N := 24) (v := .int (nI ow)) hx hb hts hin10 hown hK hP 0 rfl rfl 8 (by decide) (hts (.fieldLink RX10 107 "DearAsManyModel" "owners" "I") (by decide +kernel)) rfl rfl dX10_burn_11 ?_
      refine lv_iload_n hx hb dX10_burn_14 rfl (lv_at hl 1 rfl) ?_
      refine q_si (As := [.int (nI ow), .int (nI i)]) (rest := []) ⟨hx, hb, hml, hown, hts⟩ (c_X10_has l (D := D) (cI := cI) (cB := cB) (cZ := cZ) (S := ow) (i := i) (by omega) (by omega)) (va_cwS 2 hts gX10_burn_X10_has rfl rfl rfl (by decide +kernel) ⟨Nat.le_of_ble_eq_true rfl, Nat.le_of_ble_eq_true rfl⟩) hK hP [] rfl rfl hl.1 rfl (Nat.le_of_ble_eq_true rfl) dX10_burn_15 ⟨Nat.zero_le _, Nat.zero_le _⟩ (fun r_15 hr_15 => ?_)
      have hr_15 : bI (ow.testBit i) = r_15 := (show r_15 = bI (ow.testBit i) from hr_15).symm
      subst hr_15
      refine q_beq (tgt := 24) hx hb dX10_burn_18 (by decide) (fun c_18 => ?_) (fun c_18 => ?_)
      · refine lv_bipush (v := (-4 : Int32)) hx hb dX10_burn_24 (by decide) ?_
        refine lv_istore_n (lv' := [(2, .int (-4 : Int32)), (0, .ref ma), (1, .int (nI i))]) hx hb dX10_burn_26 rfl hl (by decide) rfl (fun ls hl => ?_)
        refine lv_iconst (v := nI 0) hx hb dX10_burn_27 (by decide) ?_
        refine lv_istore_n (lv' := [(3, .int (nI 0)), (2, .int (-4 : Int32)), (0, .ref ma), (1, .int (nI i))]) hx hb dX10_burn_28 rfl hl (by decide) rfl (fun ls hl => ?_)
        exact L29 _ 0 i (hw) (hwe.2) (c_18) (Nat.zero_le _) (Nat.lt_succ_self _) ls (lv_sub hl [2, 3, 1, 0] rfl)
      · refine lv_bipush (v := (-2 : Int32)) hx hb dX10_burn_21 (by decide) ?_
        exact q_zret (v := (-2 : Int32)) hx hb hr hlocks (rfl) (show (-2 : Int32) = A_burn T n ss ow w from by simp only [A_burn, hw, c_18]; rfl) dX10_burn_23
    · exact absurd c_5 (by decide)

set_option maxHeartbeats 4000000 in
set_option maxRecDepth 100000 in
theorem c_X10_share (l : Launch) {D : va_G} {cI cB cZ : ClassId} {ma : Nat} {mt : Nat} {mk : Nat} {mw : Nat} {mc : Nat} {mh : Nat} {mp : Nat} {mb : Nat} {me : Nat} {wp0 : Nat} {wo0 : Nat} {wb0 : Nat} {mr : Nat} {ml : Nat} {tn : Nat} {n : Nat} {ow : Nat} {uc : Nat} {kc : Nat} {sc : Nat} {ss : Int32} {at0 : Int32} {rm0 : Int32} {ro0 : Int32} {rs0 : Int32} {mK : Nat → Int32} {mW : Nat → Int32} {mC : Nat → Int32} {mH : Nat → Int32} {T : Nat → Nat → Nat} (hMT : q_MT T n mK mW mC mH) (hB : q_Bd T n) (hn1 : 1 ≤ n) (how : ow < 2 ^ n) : Met l yX10_share wsX10_share ({ frames := 4, cells := 0, slots := 0, locals := 90 } : Room) (va_Pc [.ref ma] (q_B D (q_tys cI cB cZ) [(ma, .inr (10, [.ref mt, .int (nI tn), .int (nI n), .ref mk, .ref mw, .ref mc, .ref mh, .ref mp, .int (nI ow), .int ss, .int (nI uc), .ref mb, .int (nI kc), .ref me, .int (nI sc), .ref wp0, .ref wo0, .ref wb0, .int at0, .int rm0, .int ro0, .int rs0, .ref mr, .ref ml])), (mk, .inl (cI, 7, .inl mK)), (mw, .inl (cI, 7, .inl mW)), (mc, .inl (cI, 7, .inl mC)), (mh, .inl (cI, 7, .inl mH))])) (vp_Si (fun r => r = A_share T n ss ow)) 0 0 (fun _ => False) := by
  refine Met.ofW (cc := cX10_share) (maxL := 7) (ret := (some .int)) (by decide) rfl ?_
  intro p e s m args below meth c s₁ B hml hv
  obtain ⟨rfl, hP, hK⟩ := hv
  have hx := B.exec
  have hb := B.bytes
  have hr := B.returns
  have hts := atoms_spec (ws := wsX10_share) B.pre
  have hown : s.vm.findClass RX10 = some m.cls := findClass_of_methodNamed B.named
  have hlocks := B.notSynchronized
  have hin10 : ∀ w ∈ u_ws RX10 TX10 24, w ∈ wsX10_share := by decide +kernel
  have hP : va_P D vwCl [(ma, .inr (10, [.ref mt, .int (nI tn), .int (nI n), .ref mk, .ref mw, .ref mc, .ref mh, .ref mp, .int (nI ow), .int ss, .int (nI uc), .ref mb, .int (nI kc), .ref me, .int (nI sc), .ref wp0, .ref wo0, .ref wb0, .int at0, .int rm0, .int ro0, .int rs0, .ref mr, .ref ml])), (mk, .inl (cI, 7, .inl mK)), (mw, .inl (cI, 7, .inl mW)), (mc, .inl (cI, 7, .inl mC)), (mh, .inl (cI, 7, .inl mH))] s.heap := hP
  have hl := lv_entry ([.ref ma]) (n := 7) (Nat.le_of_ble_eq_true rfl)
  rw [lg_entry_eq]
  generalize (lg_sl ([.ref ma]) ++ List.replicate (7 - (lg_sl ([.ref ma])).length) Slot.unset).toArray = ls at hl ⊢
  have hl : lv_has ls 7 [(0, .ref ma)] := hl
  have hn7 := hB.1
  have hp2 : 2 ^ n ≤ 128 := q_p2 hB.1
  have ho128 := q_S128 hB how
  have L7 : ∀ (fuel : Nat) (k : Nat) (i : Nat) (bb : Int32) (mo : Int32) (hk : k + i = n) (hm0 : ¬ mo < nI 0) (hE : A_share T n ss ow = (q_b1 (q_gv T n ss ow) n k i (bb, mo)).1) (hf : k < fuel) (ls : Array Slot) (hl : lv_has ls 7 [(0, .ref ma), (1, .int bb), (2, .int mo), (3, .int (nI i))]), W p l e (headSpec wsX10_share ({ frames := 4, cells := 0, slots := 0, locals := 90 } : Room)).room s m ([.ref ma] : List Value).toArray below meth c s.heap [] 0 0 (MQ below (vp_Si (fun r => r = A_share T n ss ow)) ([.ref ma] : List Value).toArray s 0 0 (fun _ => False)) (F0 m 7 ls []) := by
    intro fuel
    induction fuel with
    | zero =>
      intro k i bb mo hk hm0 hE hf ls hl
      exact absurd hf (Nat.not_lt_zero _)
    | succ fuel ih7 =>
      intro k i bb mo hk hm0 hE hf ls hl
      have L20 : ∀ (fuel : Nat) (kk : Nat) (k2 : Nat) (j : Nat) (b2 : Int32) (m2 : Int32) (hkk : k = kk + 1) (hk2 : k2 + j = n) (hij : i + 1 ≤ j) (hm2 : ¬ m2 < nI 0) (hE2 : A_share T n ss ow = (q_b1 (q_gv T n ss ow) n kk (i + 1) (q_b2 (q_gv T n ss ow) i k2 j (b2, m2))).1) (hf : k2 < fuel) (ls : Array Slot) (hl : lv_has ls 7 [(0, .ref ma), (1, .int b2), (2, .int m2), (3, .int (nI i)), (4, .int (nI j))]), W p l e (headSpec wsX10_share ({ frames := 4, cells := 0, slots := 0, locals := 90 } : Room)).room s m ([.ref ma] : List Value).toArray below meth c s.heap [] 0 0 (MQ below (vp_Si (fun r => r = A_share T n ss ow)) ([.ref ma] : List Value).toArray s 0 0 (fun _ => False)) (F0 m 20 ls []) := by
        intro fuel
        induction fuel with
        | zero =>
          intro kk k2 j b2 m2 hkk hk2 hij hm2 hE2 hf ls hl
          exact absurd hf (Nat.not_lt_zero _)
        | succ fuel ih20 =>
          intro kk k2 j b2 m2 hkk hk2 hij hm2 hE2 hf ls hl
          refine lv_iload hx hb dX10_share_20 (lv_at hl 4 rfl) ?_
          refine lv_aload_n hx hb dX10_share_22 rfl (lv_at hl 0 rfl) ?_
          refine q_get (ci := 10) (CC := RX10) (T := TX10) (N := 24) (v := .int (nI n)) hx hb hts hin10 hown hK hP 0 rfl rfl 2 (by decide) (hts (.fieldLink RX10 13 "DearAsManyModel" "many" "I") (by decide +kernel)) rfl rfl dX10_share_23 ?_
          refine q_nge (tgt := 152) hx hb dX10_share_26 (by decide) (by omega) (by omega) (fun c_26 => ?_) (fun c_26 => ?_)
          · refine lv_iinc (v := nI (i + 1)) (lv' := [(3, .int (nI (i + 1))), (0, .ref ma), (1, .int b2), (2, .int m2), (4, .int (nI j))]) hx hb dX10_share_152 hl (k := 3) rfl (nI_add _ 1) (by decide) rfl (fun ls hl => ?_)
            refine lv_goto (tgt := 7) hx hb dX10_share_155 (by decide) ?_
            exact ih7 kk (i + 1) b2 m2 (by omega) (hm2) (by rw [hE2, show k2 = 0 from by omega]; rfl) (by omega) ls (lv_sub hl [1, 2, 3, 0] rfl)
          · obtain ⟨k3, rfl⟩ : ∃ k3, k2 = k3 + 1 := ⟨k2 - 1, by omega⟩
            refine lv_aload_n hx hb dX10_share_29 rfl (lv_at hl 0 rfl) ?_
            refine q_get (ci := 10) (CC := RX10) (T := TX10) (N := 24) (v := .int (nI ow)) hx hb hts hin10 hown hK hP 0 rfl rfl 8 (by decide) (hts (.fieldLink RX10 107 "DearAsManyModel" "owners" "I") (by decide +kernel)) rfl rfl dX10_share_30 ?_
            refine lv_iload_n hx hb dX10_share_33 rfl (lv_at hl 3 rfl) ?_
            refine q_si (As := [.int (nI ow), .int (nI i)]) (rest := []) ⟨hx, hb, hml, hown, hts⟩ (c_X10_has l (D := D) (cI := cI) (cB := cB) (cZ := cZ) (S := ow) (i := i) (by omega) (by omega)) (va_cwS 2 hts gX10_share_X10_has rfl rfl rfl (by decide +kernel) ⟨Nat.le_of_ble_eq_true rfl, Nat.le_of_ble_eq_true rfl⟩) hK hP [] rfl rfl hl.1 rfl (Nat.le_of_ble_eq_true rfl) dX10_share_34 ⟨Nat.zero_le _, Nat.zero_le _⟩ (fun r_34 hr_34 => ?_)
            have hr_34 : bI (ow.testBit i) = r_34 := (show r_34 = bI (ow.testBit i) from hr_34).symm
            subst hr_34
            refine q_bne (tgt := 146) hx hb dX10_share_37 (by decide) (fun c_37 => ?_) (fun c_37 => ?_)
            · refine lv_iinc (v := nI (j + 1)) (lv' := [(4, .int (nI (j + 1))), (0, .ref ma), (1, .int b2), (2, .int m2), (3, .int (nI i))]) hx hb dX10_share_146 hl (k := 4) rfl (nI_add _ 1) (by decide) rfl (fun ls hl => ?_)
              refine lv_goto (tgt := 20) hx hb dX10_share_149 (by decide) ?_
              exact ih20 kk k3 (j + 1) b2 m2 (hkk) (by omega) (by omega) (hm2) (by rw [hE2, q_b2, q_stF (g := (q_gv T n ss ow)) (if_pos (Or.inl c_37)) hm2]) (by omega) ls (lv_sub hl [1, 2, 3, 4, 0] rfl)
            · refine lv_aload_n hx hb dX10_share_40 rfl (lv_at hl 0 rfl) ?_
              refine q_get (ci := 10) (CC := RX10) (T := TX10) (N := 24) (v := .int (nI ow)) hx hb hts hin10 hown hK hP 0 rfl rfl 8 (by decide) (hts (.fieldLink RX10 107 "DearAsManyModel" "owners" "I") (by decide +kernel)) rfl rfl dX10_share_41 ?_
              refine lv_iload hx hb dX10_share_44 (lv_at hl 4 rfl) ?_
              refine q_si (As := [.int (nI ow), .int (nI j)]) (rest := []) ⟨hx, hb, hml, hown, hts⟩ (c_X10_has l (D := D) (cI := cI) (cB := cB) (cZ := cZ) (S := ow) (i := j) (by omega) (by omega)) (va_cwS 2 hts gX10_share_X10_has rfl rfl rfl (by decide +kernel) ⟨Nat.le_of_ble_eq_true rfl, Nat.le_of_ble_eq_true rfl⟩) hK hP [] rfl rfl hl.1 rfl (Nat.le_of_ble_eq_true rfl) dX10_share_46 ⟨Nat.zero_le _, Nat.zero_le _⟩ (fun r_46 hr_46 => ?_)
              have hr_46 : bI (ow.testBit j) = r_46 := (show r_46 = bI (ow.testBit j) from hr_46).symm
              subst hr_46
              refine q_beq (tgt := 55) hx hb dX10_share_49 (by decide) (fun c_49 => ?_) (fun c_49 => ?_)
              · refine lv_aload_n hx hb dX10_share_55 rfl (lv_at hl 0 rfl) ?_
                refine lv_iload_n hx hb dX10_share_56 rfl (lv_at hl 3 rfl) ?_
                refine lv_aload_n hx hb dX10_share_57 rfl (lv_at hl 0 rfl) ?_
                refine q_get (ci := 10) (CC := RX10) (T := TX10) (N := 24) (v := .int (nI ow)) hx hb hts hin10 hown hK hP 0 rfl rfl 8 (by decide) (hts (.fieldLink RX10 107 "DearAsManyModel" "owners" "I") (by decide +kernel)) rfl rfl dX10_share_58 ?_
                refine q_vi (As := [.int (nI i), .int (nI ow)]) (rest := []) ⟨hx, hb, hml, hown, hts⟩ (c_X10_others l (D := D) (cI := cI) (cB := cB) (cZ := cZ) (ma := ma) (mt := mt) (mk := mk) (mw := mw) (mc := mc) (mh := mh) (mp := mp) (mb := mb) (me := me) (wp0 := wp0) (wo0 := wo0) (wb0 := wb0) (mr := mr) (ml := ml) (tn := tn) (n := n) (ow := ow) (uc := uc) (kc := kc) (sc := sc) (ss := ss) (at0 := at0) (rm0 := rm0) (ro0 := ro0) (rs0 := rs0) (mK := mK) (mW := mW) (mC := mC) (mH := mH) (T := T) (i := i) (S := ow) (by first | assumption | exact Nat.zero_le _ | omega) (by first | assumption | exact Nat.zero_le _ | omega) (by first | assumption | exact Nat.zero_le _ | omega) (by omega) (how)) (cwV 2 hts gX10_share_X10_others rfl rfl rfl (by decide +kernel) ⟨Nat.le_of_ble_eq_true rfl, Nat.le_of_ble_eq_true rfl⟩) hK hP [0, 1, 2, 3, 4] rfl 0 10 rfl rfl rfl rfl hl.1 rfl (Nat.le_of_ble_eq_true rfl) dX10_share_61 ⟨Nat.zero_le _, Nat.zero_le _⟩ (fun r_61 hr_61 => ?_)
                have hr_61 : nI (q_oth T n i ow) = r_61 := (show r_61 = nI (q_oth T n i ow) from hr_61).symm
                subst hr_61
                refine lv_istore (lv' := [(5, .int (nI (q_oth T n i ow))), (0, .ref ma), (1, .int b2), (2, .int m2), (3, .int (nI i)), (4, .int (nI j))]) hx hb dX10_share_64 hl (by decide) rfl (fun ls hl => ?_)
                refine lv_aload_n hx hb dX10_share_66 rfl (lv_at hl 1 rfl) ?_
                refine lv_iload_n hx hb dX10_share_67 rfl (lv_at hl 4 rfl) ?_
                refine lv_aload_n hx hb dX10_share_68 rfl (lv_at hl 1 rfl) ?_
                refine q_get (ci := 10) (CC := RX10) (T := TX10) (N := 24) (v := .int (nI ow)) hx hb hts hin10 hown hK hP 0 rfl rfl 8 (by decide) (hts (.fieldLink RX10 107 "DearAsManyModel" "owners" "I") (by decide +kernel)) rfl rfl dX10_share_69 ?_
                refine q_vi (As := [.int (nI i), .int (nI ow)]) (rest := []) ⟨hx, hb, hml, hown, hts⟩ (c_X10_worthOf l (D := D) (cI := cI) (cB := cB) (cZ := cZ) (ma := ma) (mt := mt) (mk := mk) (mw := mw) (mc := mc) (mh := mh) (mp := mp) (mb := mb) (me := me) (wp0 := wp0) (wo0 := wo0) (wb0 := wb0) (mr := mr) (ml := ml) (tn := tn) (n := n) (ow := ow) (uc := uc) (kc := kc) (sc := sc) (ss := ss) (at0 := at0) (rm0 := rm0) (ro0 := ro0) (rs0 := rs0) (mK := mK) (mW := mW) (mC := mC) (mH := mH) (T := T) (i := i) (S := ow) (by first | assumption | exact Nat.zero_le _ | omega) (by first | assumption | exact Nat.zero_le _ | omega) (by first | assumption | exact Nat.zero_le _ | omega) (by omega) (how)) (cwV 2 hts gX10_share_X10_worthOf rfl rfl rfl (by decide +kernel) ⟨Nat.le_of_ble_eq_true rfl, Nat.le_of_ble_eq_true rfl⟩) hK hP [0, 1, 2, 3, 4] rfl 0 10 rfl rfl rfl rfl hl.1 rfl (Nat.le_of_ble_eq_true rfl) dX10_share_72 ⟨Nat.zero_le _, Nat.zero_le _⟩ (fun r_72 hr_72 => ?_)
                have hr_72 : q_wor T n ss i ow = r_72 := (show r_72 = q_wor T n ss i ow from hr_72).symm
                subst hr_72
                refine lv_aload_n hx hb dX10_share_75 rfl (lv_at hl 1 rfl) ?_
                refine q_get (ci := 10) (CC := RX10) (T := TX10) (N := 24) (v := .ref mk) hx hb hts hin10 hown hK hP 0 rfl rfl 3 (by decide) (hts (.fieldLink RX10 17 "DearAsManyModel" "kind" "[I") (by decide +kernel)) rfl rfl dX10_share_76 ?_
                refine lv_iload hx hb dX10_share_79 (lv_at hl 5 rfl) ?_
                refine q_aldv (v := nI (T j 0)) hx hb hK hP 1 0 rfl rfl (by omega) (by decide) dX10_share_81 ((hMT j (by omega)).1) ?_
                refine lv_aload_n hx hb dX10_share_82 rfl (lv_at hl 1 rfl) ?_
                refine q_get (ci := 10) (CC := RX10) (T := TX10) (N := 24) (v := .ref mw) hx hb hts hin10 hown hK hP 0 rfl rfl 4 (by decide) (hts (.fieldLink RX10 20 "DearAsManyModel" "w" "[I") (by decide +kernel)) rfl rfl dX10_share_83 ?_
                refine lv_iload hx hb dX10_share_86 (lv_at hl 5 rfl) ?_
                refine q_aldv (v := nI (T j 1)) hx hb hK hP 2 0 rfl rfl (by omega) (by decide) dX10_share_88 ((hMT j (by omega)).2.1) ?_
                refine lv_aload_n hx hb dX10_share_89 rfl (lv_at hl 1 rfl) ?_
                refine q_get (ci := 10) (CC := RX10) (T := TX10) (N := 24) (v := .int ss) hx hb hts hin10 hown hK hP 0 rfl rfl 9 (by decide) (hts (.fieldLink RX10 32 "DearAsManyModel" "season" "I") (by decide +kernel)) rfl rfl dX10_share_90 ?_
                refine q_iadd (v := (nI (T j 1)) + ss) hx hb dX10_share_93 (rfl) ?_
                refine lv_bipush (v := nI 50) hx hb dX10_share_94 (by decide) ?_
                refine q_isub (v := nI (T j 1) + (ss - nI 50)) hx hb dX10_share_96 (q_as _ _ _) ?_
                refine lv_aload_n hx hb dX10_share_97 rfl (lv_at hl 1 rfl) ?_
                refine q_get (ci := 10) (CC := RX10) (T := TX10) (N := 24) (v := .ref mc) hx hb hts hin10 hown hK hP 0 rfl rfl 5 (by decide) (hts (.fieldLink RX10 23 "DearAsManyModel" "c" "[I") (by decide +kernel)) rfl rfl dX10_share_98 ?_
                refine lv_iload hx hb dX10_share_101 (lv_at hl 5 rfl) ?_
                refine q_aldv (v := nI (T j 2)) hx hb hK hP 3 0 rfl rfl (by omega) (by decide) dX10_share_103 ((hMT j (by omega)).2.2.1) ?_
                refine lv_iload hx hb dX10_share_104 (lv_at hl 0 rfl) ?_
                refine q_si (As := [.int (nI (T j 0)), .int (nI (T j 1) + (ss - nI 50)), .int (nI (T j 2)), .int (nI (q_oth T n i ow))]) (rest := [.int (q_wor T n ss i ow)]) ⟨hx, hb, hml, hown, hts⟩ (c_X10_worthBy l (D := D) (cI := cI) (cB := cB) (cZ := cZ) (k := T j 0) (cc := T j 2) (o := q_oth T n i ow) (x := nI (T j 1) + (ss - nI 50)) ((hB.2 j (by omega)).1) (q_oth_le _ _ _ _)) (va_cwS 4 hts gX10_share_X10_worthBy rfl rfl rfl (by decide +kernel) ⟨Nat.le_of_ble_eq_true rfl, Nat.le_of_ble_eq_true rfl⟩) hK hP [] rfl rfl hl.1 rfl (Nat.le_of_ble_eq_true rfl) dX10_share_106 ⟨Nat.zero_le _, Nat.zero_le _⟩ (fun r_106 hr_106 => ?_)
                have hr_106 : q_wby (T j 0) (nI (T j 1) + (ss - nI 50)) (T j 2) (q_oth T n i ow) = r_106 := (show r_106 = q_wby (T j 0) (nI (T j 1) + (ss - nI 50)) (T j 2) (q_oth T n i ow) from hr_106).symm
                subst hr_106
                refine q_iadd (v := (q_wor T n ss i ow) + (q_wby (T j 0) (nI (T j 1) + (ss - nI 50)) (T j 2) (q_oth T n i ow))) hx hb dX10_share_109 (rfl) ?_
                refine lv_iload hx hb dX10_share_110 (lv_at hl 0 rfl) ?_
                refine q_isub (v := ((q_wor T n ss i ow) + (q_wby (T j 0) (nI (T j 1) + (ss - nI 50)) (T j 2) (q_oth T n i ow))) - (nI (q_oth T n i ow))) hx hb dX10_share_112 (rfl) ?_
                refine lv_istore (lv' := [(6, .int (((q_wor T n ss i ow) + (q_wby (T j 0) (nI (T j 1) + (ss - nI 50)) (T j 2) (q_oth T n i ow))) - (nI (q_oth T n i ow)))), (5, .int (nI (q_oth T n i ow))), (0, .ref ma), (1, .int b2), (2, .int m2), (3, .int (nI i)), (4, .int (nI j))]) hx hb dX10_share_113 hl (by decide) rfl (fun ls hl => ?_)
                refine lv_iload hx hb dX10_share_115 (lv_at hl 0 rfl) ?_
                refine lv_iload_n hx hb dX10_share_117 rfl (lv_at hl 4 rfl) ?_
                refine lv_icmp_le (x := ((q_wor T n ss i ow) + (q_wby (T j 0) (nI (T j 1) + (ss - nI 50)) (T j 2) (q_oth T n i ow))) - (nI (q_oth T n i ow))) (y := m2) (tgt := 131) hx hb dX10_share_118 (by decide) (fun c_118 => ?_) (fun c_118 => ?_)
                · refine lv_iload_n hx hb dX10_share_131 rfl (lv_at hl 3 rfl) ?_
                  refine lv_istore_n (lv' := [(1, .int b2), (6, .int (((q_wor T n ss i ow) + (q_wby (T j 0) (nI (T j 1) + (ss - nI 50)) (T j 2) (q_oth T n i ow))) - (nI (q_oth T n i ow)))), (5, .int (nI (q_oth T n i ow))), (0, .ref ma), (2, .int m2), (3, .int (nI i)), (4, .int (nI j))]) hx hb dX10_share_132 rfl hl (by decide) rfl (fun ls hl => ?_)
                  refine lv_iload hx hb dX10_share_133 (lv_at hl 1 rfl) ?_
                  refine lv_iload_n hx hb dX10_share_135 rfl (lv_at hl 4 rfl) ?_
                  refine lv_icmp_le (x := ((q_wor T n ss i ow) + (q_wby (T j 0) (nI (T j 1) + (ss - nI 50)) (T j 2) (q_oth T n i ow))) - (nI (q_oth T n i ow))) (y := m2) (tgt := 144) hx hb dX10_share_136 (by decide) (fun c_136 => ?_) (fun c_136 => ?_)
                  · refine lv_iload_n hx hb dX10_share_144 rfl (lv_at hl 4 rfl) ?_
                    refine lv_istore_n (lv' := [(2, .int m2), (1, .int b2), (6, .int (((q_wor T n ss i ow) + (q_wby (T j 0) (nI (T j 1) + (ss - nI 50)) (T j 2) (q_oth T n i ow))) - (nI (q_oth T n i ow)))), (5, .int (nI (q_oth T n i ow))), (0, .ref ma), (3, .int (nI i)), (4, .int (nI j))]) hx hb dX10_share_145 rfl hl (by decide) rfl (fun ls hl => ?_)
                    refine lv_iinc (v := nI (j + 1)) (lv' := [(4, .int (nI (j + 1))), (2, .int m2), (1, .int b2), (6, .int (((q_wor T n ss i ow) + (q_wby (T j 0) (nI (T j 1) + (ss - nI 50)) (T j 2) (q_oth T n i ow))) - (nI (q_oth T n i ow)))), (5, .int (nI (q_oth T n i ow))), (0, .ref ma), (3, .int (nI i))]) hx hb dX10_share_146 hl (k := 6) rfl (nI_add _ 1) (by decide) rfl (fun ls hl => ?_)
                    refine lv_goto (tgt := 20) hx hb dX10_share_149 (by decide) ?_
                    exact ih20 kk k3 (j + 1) b2 m2 (hkk) (by omega) (by omega) (hm2) (by rw [hE2, q_b2, q_stF (g := (q_gv T n ss ow)) (if_neg (fun z => z.elim (fun q => by rw [c_37] at q; exact absurd q (by decide)) (fun q => by rw [c_49] at q; exact absurd q (by decide)))) (Int32.not_lt.mpr c_118)]) (by omega) ls (lv_sub hl [5, 2, 1, 6, 0] rfl)
                  · exact absurd c_136 ((fun z => z c_118))
                · refine lv_bipush (v := nI 10) hx hb dX10_share_121 (by decide) ?_
                  refine lv_iload_n hx hb dX10_share_123 rfl (lv_at hl 5 rfl) ?_
                  refine q_imul (v := nI (10 * i)) hx hb dX10_share_124 (q_mul _ _) ?_
                  refine lv_iload hx hb dX10_share_125 (lv_at hl 6 rfl) ?_
                  refine q_iadd (v := nI ((10 * i) + j)) hx hb dX10_share_127 (nI_add _ _) ?_
                  refine lv_goto (tgt := 132) hx hb dX10_share_128 (by decide) ?_
                  refine lv_istore_n (lv' := [(1, .int (nI ((10 * i) + j))), (6, .int (((q_wor T n ss i ow) + (q_wby (T j 0) (nI (T j 1) + (ss - nI 50)) (T j 2) (q_oth T n i ow))) - (nI (q_oth T n i ow)))), (5, .int (nI (q_oth T n i ow))), (0, .ref ma), (2, .int m2), (3, .int (nI i)), (4, .int (nI j))]) hx hb dX10_share_132 rfl hl (by decide) rfl (fun ls hl => ?_)
                  refine lv_iload hx hb dX10_share_133 (lv_at hl 1 rfl) ?_
                  refine lv_iload_n hx hb dX10_share_135 rfl (lv_at hl 4 rfl) ?_
                  refine lv_icmp_le (x := ((q_wor T n ss i ow) + (q_wby (T j 0) (nI (T j 1) + (ss - nI 50)) (T j 2) (q_oth T n i ow))) - (nI (q_oth T n i ow))) (y := m2) (tgt := 144) hx hb dX10_share_136 (by decide) (fun c_136 => ?_) (fun c_136 => ?_)
                  · exact absurd c_136 (c_118)
                  · refine lv_iload hx hb dX10_share_139 (lv_at hl 1 rfl) ?_
                    refine lv_goto (tgt := 145) hx hb dX10_share_141 (by decide) ?_
                    refine lv_istore_n (lv' := [(2, .int (((q_wor T n ss i ow) + (q_wby (T j 0) (nI (T j 1) + (ss - nI 50)) (T j 2) (q_oth T n i ow))) - (nI (q_oth T n i ow)))), (1, .int (nI ((10 * i) + j))), (6, .int (((q_wor T n ss i ow) + (q_wby (T j 0) (nI (T j 1) + (ss - nI 50)) (T j 2) (q_oth T n i ow))) - (nI (q_oth T n i ow)))), (5, .int (nI (q_oth T n i ow))), (0, .ref ma), (3, .int (nI i)), (4, .int (nI j))]) hx hb dX10_share_145 rfl hl (by decide) rfl (fun ls hl => ?_)
                    refine lv_iinc (v := nI (j + 1)) (lv' := [(4, .int (nI (j + 1))), (2, .int (((q_wor T n ss i ow) + (q_wby (T j 0) (nI (T j 1) + (ss - nI 50)) (T j 2) (q_oth T n i ow))) - (nI (q_oth T n i ow)))), (1, .int (nI ((10 * i) + j))), (6, .int (((q_wor T n ss i ow) + (q_wby (T j 0) (nI (T j 1) + (ss - nI 50)) (T j 2) (q_oth T n i ow))) - (nI (q_oth T n i ow)))), (5, .int (nI (q_oth T n i ow))), (0, .ref ma), (3, .int (nI i))]) hx hb dX10_share_146 hl (k := 6) rfl (nI_add _ 1) (by decide) rfl (fun ls hl => ?_)
                    refine lv_goto (tgt := 20) hx hb dX10_share_149 (by decide) ?_
                    exact ih20 kk k3 (j + 1) (nI ((10 * i) + j)) (((q_wor T n ss i ow) + (q_wby (T j 0) (nI (T j 1) + (ss - nI 50)) (T j 2) (q_oth T n i ow))) - (nI (q_oth T n i ow))) (hkk) (by omega) (by omega) (fun z => hm2 (Int32.lt_trans (Int32.not_le.mp c_118) z)) (by rw [hE2, q_b2, q_stT (g := (q_gv T n ss ow)) (if_neg (fun z => z.elim (fun q => by rw [c_37] at q; exact absurd q (by decide)) (fun q => by rw [c_49] at q; exact absurd q (by decide)))) (Int32.not_le.mp c_118)]; rfl) (by omega) ls (lv_sub hl [5, 2, 1, 6, 0] rfl)
              · refine lv_goto (tgt := 146) hx hb dX10_share_52 (by decide) ?_
                refine lv_iinc (v := nI (j + 1)) (lv' := [(4, .int (nI (j + 1))), (0, .ref ma), (1, .int b2), (2, .int m2), (3, .int (nI i))]) hx hb dX10_share_146 hl (k := 4) rfl (nI_add _ 1) (by decide) rfl (fun ls hl => ?_)
                refine lv_goto (tgt := 20) hx hb dX10_share_149 (by decide) ?_
                exact ih20 kk k3 (j + 1) b2 m2 (hkk) (by omega) (by omega) (hm2) (by rw [hE2, q_b2, q_stF (g := (q_gv T n ss ow)) (if_pos (Or.inr c_49)) hm2]) (by omega) ls (lv_sub hl [1, 2, 3, 4, 0] rfl)
      refine lv_iload_n hx hb dX10_share_7 rfl (lv_at hl 3 rfl) ?_
      refine lv_aload_n hx hb dX10_share_8 rfl (lv_at hl 0 rfl) ?_
      refine q_get (ci := 10) (CC := RX10) (T := TX10) (N := 24) (v := .int (nI n)) hx hb hts hin10 hown hK hP 0 rfl rfl 2 (by decide) (hts (.fieldLink RX10 13 "DearAsManyModel" "many" "I") (by decide +kernel)) rfl rfl dX10_share_9 ?_
      refine q_nge (tgt := 158) hx hb dX10_share_12 (by decide) (by omega) (by omega) (fun c_12 => ?_) (fun c_12 => ?_)
      · refine lv_iload_n hx hb dX10_share_158 rfl (lv_at hl 1 rfl) ?_
        exact q_zret (v := bb) hx hb hr hlocks (rfl) (show bb = A_share T n ss ow from by rw [hE, show k = 0 from by omega]; rfl) dX10_share_159
      · obtain ⟨kk, rfl⟩ : ∃ kk, k = kk + 1 := ⟨k - 1, by omega⟩
        rw [q_b1] at hE
        refine lv_iload_n hx hb dX10_share_15 rfl (lv_at hl 3 rfl) ?_
        refine lv_iconst (v := nI 1) hx hb dX10_share_16 (by decide) ?_
        refine q_iadd (v := nI (i + 1)) hx hb dX10_share_17 (nI_add _ _) ?_
        refine lv_istore (lv' := [(4, .int (nI (i + 1))), (0, .ref ma), (1, .int bb), (2, .int mo), (3, .int (nI i))]) hx hb dX10_share_18 hl (by decide) rfl (fun ls hl => ?_)
        exact L20 _ kk (n - (i + 1)) (i + 1) bb mo (by omega) (by omega) (Nat.le_refl _) (hm0) (hE) (Nat.lt_succ_self _) ls (lv_sub hl [1, 2, 3, 4, 0] rfl)
  refine lv_bipush (v := (-4 : Int32)) hx hb dX10_share_0 (by decide) ?_
  refine lv_istore_n (lv' := [(1, .int (-4 : Int32)), (0, .ref ma)]) hx hb dX10_share_2 rfl hl (by decide) rfl (fun ls hl => ?_)
  refine lv_iconst (v := nI 0) hx hb dX10_share_3 (by decide) ?_
  refine lv_istore_n (lv' := [(2, .int (nI 0)), (1, .int (-4 : Int32)), (0, .ref ma)]) hx hb dX10_share_4 rfl hl (by decide) rfl (fun ls hl => ?_)
  refine lv_iconst (v := nI 0) hx hb dX10_share_5 (by decide) ?_
  refine lv_istore_n (lv' := [(3, .int (nI 0)), (2, .int (nI 0)), (1, .int (-4 : Int32)), (0, .ref ma)]) hx hb dX10_share_6 rfl hl (by decide) rfl (fun ls hl => ?_)
  exact L7 _ n 0 (-4 : Int32) (nI 0) (rfl) (by decide) (rfl) (Nat.lt_succ_self _) ls (lv_sub hl [3, 2, 1, 0] rfl)

set_option maxHeartbeats 4000000 in
set_option maxRecDepth 100000 in
theorem c_X10_likes (l : Launch) {D : va_G} {cI cB cZ : ClassId} {ma : Nat} {mt : Nat} {mk : Nat} {mw : Nat} {mc : Nat} {mh : Nat} {mp : Nat} {mb : Nat} {me : Nat} {wp0 : Nat} {wo0 : Nat} {wb0 : Nat} {mr : Nat} {ml : Nat} {tn : Nat} {n : Nat} {ow : Nat} {uc : Nat} {kc : Nat} {sc : Nat} {ss : Int32} {at0 : Int32} {rm0 : Int32} {ro0 : Int32} {rs0 : Int32} {mK : Nat → Int32} {mW : Nat → Int32} {mC : Nat → Int32} {mH : Nat → Int32} {T : Nat → Nat → Nat} {sP : Nat → Int32} {sO : Nat → Int32} {sB : Nat → Int32} {SP : Nat → Nat} {SO : Nat → Nat} {SB : Nat → Bool} {w : Int32} {v : Int32} (hMT : q_MT T n mK mW mC mH) (hB : q_Bd T n) (hn1 : 1 ≤ n) (hSg : q_Sg sc SP SO SB sP sO sB) : Met l yX10_likes wsX10_likes ({ frames := 2, cells := 0, slots := 0, locals := 46 } : Room) (va_Pc [.ref ma, .int w, .int v] (q_B D (q_tys cI cB cZ) [(ma, .inr (10, [.ref mt, .int (nI tn), .int (nI n), .ref mk, .ref mw, .ref mc, .ref mh, .ref mp, .int (nI ow), .int ss, .int (nI uc), .ref mb, .int (nI kc), .ref me, .int (nI sc), .ref wp0, .ref wo0, .ref wb0, .int at0, .int rm0, .int ro0, .int rs0, .ref mr, .ref ml])), (mk, .inl (cI, 7, .inl mK)), (mw, .inl (cI, 7, .inl mW)), (mc, .inl (cI, 7, .inl mC)), (mh, .inl (cI, 7, .inl mH)), (wp0, .inl (cI, 8, .inl sP)), (wo0, .inl (cI, 8, .inl sO)), (wb0, .inl (cZ, 8, .inl sB))])) (vp_Si (fun r => r = A_likes T n sc SP SO SB w v)) 0 0 (fun _ => False) := by
  refine Met.ofW (cc := cX10_likes) (maxL := 9) (ret := (some .int)) (by decide) rfl ?_
  intro p e s m args below meth c s₁ B hml hv
  obtain ⟨rfl, hP, hK⟩ := hv
  have hx := B.exec
  have hb := B.bytes
  have hr := B.returns
  have hts := atoms_spec (ws := wsX10_likes) B.pre
  have hown : s.vm.findClass RX10 = some m.cls := findClass_of_methodNamed B.named
  have hlocks := B.notSynchronized
  have hin10 : ∀ w ∈ u_ws RX10 TX10 24, w ∈ wsX10_likes := by decide +kernel
  have hP : va_P D vwCl [(ma, .inr (10, [.ref mt, .int (nI tn), .int (nI n), .ref mk, .ref mw, .ref mc, .ref mh, .ref mp, .int (nI ow), .int ss, .int (nI uc), .ref mb, .int (nI kc), .ref me, .int (nI sc), .ref wp0, .ref wo0, .ref wb0, .int at0, .int rm0, .int ro0, .int rs0, .ref mr, .ref ml])), (mk, .inl (cI, 7, .inl mK)), (mw, .inl (cI, 7, .inl mW)), (mc, .inl (cI, 7, .inl mC)), (mh, .inl (cI, 7, .inl mH)), (wp0, .inl (cI, 8, .inl sP)), (wo0, .inl (cI, 8, .inl sO)), (wb0, .inl (cZ, 8, .inl sB))] s.heap := hP
  have hl := lv_entry ([.ref ma, .int w, .int v]) (n := 9) (Nat.le_of_ble_eq_true rfl)
  rw [lg_entry_eq]
  generalize (lg_sl ([.ref ma, .int w, .int v]) ++ List.replicate (9 - (lg_sl ([.ref ma, .int w, .int v])).length) Slot.unset).toArray = ls at hl ⊢
  have hl : lv_has ls 9 [(0, .ref ma), (1, .int w), (2, .int v)] := hl
  have hn7 := hB.1
  have hp2 : 2 ^ n ≤ 128 := q_p2 hB.1
  have hsc := hSg.1
  have L30 : ∀ (fuel : Nat) (j : Nat) (i : Nat) (hj : j ≤ 100) (hw : q_ix n w = some i) (hi : i < n) (hv : q_eit v = true) (hf : j < fuel) (ls : Array Slot) (hl : lv_has ls 9 [(0, .ref ma), (1, .int (nI i)), (2, .int v), (3, .int (nI ((q_lks (q_lkP T i sc SP SO SB) (100 - j)).1))), (4, .int ((q_lks (q_lkP T i sc SP SO SB) (100 - j)).2)), (5, .int (q_pr j))]), W p l e (headSpec wsX10_likes ({ frames := 2, cells := 0, slots := 0, locals := 46 } : Room)).room s m ([.ref ma, .int w, .int v] : List Value).toArray below meth c s.heap [] 0 0 (MQ below (vp_Si (fun r => r = A_likes T n sc SP SO SB w v)) ([.ref ma, .int w, .int v] : List Value).toArray s 0 0 (fun _ => False)) (F0 m 30 ls []) := by
    intro fuel
    induction fuel with
    | zero =>
      intro j i hj hw hi hv hf ls hl
      exact absurd hf (Nat.not_lt_zero _)
    | succ fuel ih30 =>
      intro j i hj hw hi hv hf ls hl
      have L41 : ∀ (fuel : Nat) (k : Nat) (j1 : Nat) (hj1 : j = j1 + 1) (hk : k ≤ sc) (hf : sc - k < fuel) (ls : Array Slot) (hl : lv_has ls 9 [(0, .ref ma), (1, .int (nI i)), (2, .int v), (3, .int (nI ((q_lks (q_lkP T i sc SP SO SB) (100 - j)).1))), (4, .int ((q_lks (q_lkP T i sc SP SO SB) (100 - j)).2)), (5, .int (nI j1)), (6, .int (bI (q_ft T i j1 SP SO SB k))), (7, .int (nI k))]), W p l e (headSpec wsX10_likes ({ frames := 2, cells := 0, slots := 0, locals := 46 } : Room)).room s m ([.ref ma, .int w, .int v] : List Value).toArray below meth c s.heap [] 0 0 (MQ below (vp_Si (fun r => r = A_likes T n sc SP SO SB w v)) ([.ref ma, .int w, .int v] : List Value).toArray s 0 0 (fun _ => False)) (F0 m 41 ls []) := by
        intro fuel
        induction fuel with
        | zero =>
          intro k j1 hj1 hk hf ls hl
          exact absurd hf (Nat.not_lt_zero _)
        | succ fuel ih41 =>
          intro k j1 hj1 hk hf ls hl
          refine lv_iload hx hb dX10_likes_41 (lv_at hl 7 rfl) ?_
          refine lv_aload_n hx hb dX10_likes_43 rfl (lv_at hl 0 rfl) ?_
          refine q_get (ci := 10) (CC := RX10) (T := TX10) (N := 24) (v := .int (nI sc)) hx hb hts hin10 hown hK hP 0 rfl rfl 14 (by decide) (hts (.fieldLink RX10 110 "DearAsManyModel" "sights" "I") (by decide +kernel)) rfl rfl dX10_likes_44 ?_
          refine q_nge (tgt := 132) hx hb dX10_likes_47 (by decide) (by omega) (by omega) (fun c_47 => ?_) (fun c_47 => ?_)
          · refine lv_iload_n hx hb dX10_likes_132 rfl (lv_at hl 3 rfl) ?_
            refine lv_iload hx hb dX10_likes_133 (lv_at hl 6 rfl) ?_
            refine q_beq (tgt := 142) hx hb dX10_likes_135 (by decide) (fun c_135 => ?_) (fun c_135 => ?_)
            · refine lv_iconst (v := nI 0) hx hb dX10_likes_142 (by decide) ?_
              refine q_iadd (v := nI (((q_lks (q_lkP T i sc SP SO SB) (100 - j)).1) + 0)) hx hb dX10_likes_143 (nI_add _ _) ?_
              refine lv_istore_n (lv' := [(3, .int (nI (((q_lks (q_lkP T i sc SP SO SB) (100 - j)).1) + 0))), (0, .ref ma), (1, .int (nI i)), (2, .int v), (4, .int ((q_lks (q_lkP T i sc SP SO SB) (100 - j)).2)), (5, .int (nI j1)), (6, .int (bI (q_ft T i j1 SP SO SB k))), (7, .int (nI k))]) hx hb dX10_likes_144 rfl hl (by decide) rfl (fun ls hl => ?_)
              refine lv_iload hx hb dX10_likes_145 (lv_at hl 6 rfl) ?_
              refine q_beq (tgt := 155) hx hb dX10_likes_147 (by decide) (fun c_147 => ?_) (fun c_147 => ?_)
              · refine lv_iload hx hb dX10_likes_155 (lv_at hl 4 rfl) ?_
                refine lv_istore (lv' := [(4, .int ((q_lks (q_lkP T i sc SP SO SB) (100 - j)).2)), (3, .int (nI (((q_lks (q_lkP T i sc SP SO SB) (100 - j)).1) + 0))), (0, .ref ma), (1, .int (nI i)), (2, .int v), (5, .int (nI j1)), (6, .int (bI (q_ft T i j1 SP SO SB k))), (7, .int (nI k))]) hx hb dX10_likes_157 hl (by decide) rfl (fun ls hl => ?_)
                refine lv_iinc (v := q_pr j1) (lv' := [(5, .int (q_pr j1)), (4, .int ((q_lks (q_lkP T i sc SP SO SB) (100 - j)).2)), (3, .int (nI (((q_lks (q_lkP T i sc SP SO SB) (100 - j)).1) + 0))), (0, .ref ma), (1, .int (nI i)), (2, .int v), (6, .int (bI (q_ft T i j1 SP SO SB k))), (7, .int (nI k))]) hx hb dX10_likes_159 hl (k := 5) rfl (q_prS) (by decide) rfl (fun ls hl => ?_)
                refine lv_goto (tgt := 30) hx hb dX10_likes_162 (by decide) ?_
                have hl : lv_has ls 9 [(5, .int (q_pr j1)), (4, .int ((q_lks (q_lkP T i sc SP SO SB) (100 - j)).2)), (3, .int (nI ((q_lks (q_lkP T i sc SP SO SB) (100 - j1)).1))), (0, .ref ma), (1, .int (nI i)), (2, .int v), (6, .int (bI (q_ft T i j1 SP SO SB k))), (7, .int (nI k))] := by rw [← show nI (((q_lks (q_lkP T i sc SP SO SB) (100 - j)).1) + 0) = nI ((q_lks (q_lkP T i sc SP SO SB) (100 - j1)).1) from by rw [Nat.add_zero, hj1, q_lksF (P := q_lkP T i sc SP SO SB) (j := j1) (by omega) (by rw [show sc = k from by omega]; exact c_135)]]; exact hl
                have hl : lv_has ls 9 [(5, .int (q_pr j1)), (4, .int ((q_lks (q_lkP T i sc SP SO SB) (100 - j1)).2)), (3, .int (nI ((q_lks (q_lkP T i sc SP SO SB) (100 - j1)).1))), (0, .ref ma), (1, .int (nI i)), (2, .int v), (6, .int (bI (q_ft T i j1 SP SO SB k))), (7, .int (nI k))] := by rw [← show (q_lks (q_lkP T i sc SP SO SB) (100 - j)).2 = (q_lks (q_lkP T i sc SP SO SB) (100 - j1)).2 from by rw [hj1, q_lksF (P := q_lkP T i sc SP SO SB) (j := j1) (by omega) (by rw [show sc = k from by omega]; exact c_135)]]; exact hl
                exact ih30 j1 i (by omega) (hw) (hi) (hv) (by omega) ls (lv_sub hl [3, 4, 5, 2, 1, 0] rfl)
              · exact absurd c_147 ((by rw [c_135]; decide))
            · refine lv_iconst (v := nI 1) hx hb dX10_likes_138 (by decide) ?_
              refine lv_goto (tgt := 143) hx hb dX10_likes_139 (by decide) ?_
              refine q_iadd (v := nI (((q_lks (q_lkP T i sc SP SO SB) (100 - j)).1) + 1)) hx hb dX10_likes_143 (nI_add _ _) ?_
              refine lv_istore_n (lv' := [(3, .int (nI (((q_lks (q_lkP T i sc SP SO SB) (100 - j)).1) + 1))), (0, .ref ma), (1, .int (nI i)), (2, .int v), (4, .int ((q_lks (q_lkP T i sc SP SO SB) (100 - j)).2)), (5, .int (nI j1)), (6, .int (bI (q_ft T i j1 SP SO SB k))), (7, .int (nI k))]) hx hb dX10_likes_144 rfl hl (by decide) rfl (fun ls hl => ?_)
              refine lv_iload hx hb dX10_likes_145 (lv_at hl 6 rfl) ?_
              refine q_beq (tgt := 155) hx hb dX10_likes_147 (by decide) (fun c_147 => ?_) (fun c_147 => ?_)
              · exact absurd c_147 ((by rw [c_135]; decide))
              · refine lv_iload hx hb dX10_likes_150 (lv_at hl 5 rfl) ?_
                refine lv_goto (tgt := 157) hx hb dX10_likes_152 (by decide) ?_
                refine lv_istore (lv' := [(4, .int (nI j1)), (3, .int (nI (((q_lks (q_lkP T i sc SP SO SB) (100 - j)).1) + 1))), (0, .ref ma), (1, .int (nI i)), (2, .int v), (5, .int (nI j1)), (6, .int (bI (q_ft T i j1 SP SO SB k))), (7, .int (nI k))]) hx hb dX10_likes_157 hl (by decide) rfl (fun ls hl => ?_)
                refine lv_iinc (v := q_pr j1) (lv' := [(5, .int (q_pr j1)), (4, .int (nI j1)), (3, .int (nI (((q_lks (q_lkP T i sc SP SO SB) (100 - j)).1) + 1))), (0, .ref ma), (1, .int (nI i)), (2, .int v), (6, .int (bI (q_ft T i j1 SP SO SB k))), (7, .int (nI k))]) hx hb dX10_likes_159 hl (k := 5) rfl (q_prS) (by decide) rfl (fun ls hl => ?_)
                refine lv_goto (tgt := 30) hx hb dX10_likes_162 (by decide) ?_
                have hl : lv_has ls 9 [(5, .int (q_pr j1)), (4, .int (nI j1)), (3, .int (nI ((q_lks (q_lkP T i sc SP SO SB) (100 - j1)).1))), (0, .ref ma), (1, .int (nI i)), (2, .int v), (6, .int (bI (q_ft T i j1 SP SO SB k))), (7, .int (nI k))] := by rw [← show nI (((q_lks (q_lkP T i sc SP SO SB) (100 - j)).1) + 1) = nI ((q_lks (q_lkP T i sc SP SO SB) (100 - j1)).1) from by rw [hj1, q_lksT (P := q_lkP T i sc SP SO SB) (j := j1) (by omega) (by rw [show sc = k from by omega]; exact c_135)]]; exact hl
                have hl : lv_has ls 9 [(5, .int (q_pr j1)), (4, .int ((q_lks (q_lkP T i sc SP SO SB) (100 - j1)).2)), (3, .int (nI ((q_lks (q_lkP T i sc SP SO SB) (100 - j1)).1))), (0, .ref ma), (1, .int (nI i)), (2, .int v), (6, .int (bI (q_ft T i j1 SP SO SB k))), (7, .int (nI k))] := by rw [← show nI j1 = (q_lks (q_lkP T i sc SP SO SB) (100 - j1)).2 from by rw [q_lksT (P := q_lkP T i sc SP SO SB) (j := j1) (by omega) (by rw [show sc = k from by omega]; exact c_135)]]; exact hl
                exact ih30 j1 i (by omega) (hw) (hi) (hv) (by omega) ls (lv_sub hl [3, 4, 5, 2, 1, 0] rfl)
          · refine lv_aload_n hx hb dX10_likes_50 rfl (lv_at hl 0 rfl) ?_
            refine q_get (ci := 10) (CC := RX10) (T := TX10) (N := 24) (v := .ref mk) hx hb hts hin10 hown hK hP 0 rfl rfl 3 (by decide) (hts (.fieldLink RX10 17 "DearAsManyModel" "kind" "[I") (by decide +kernel)) rfl rfl dX10_likes_51 ?_
            refine lv_iload_n hx hb dX10_likes_54 rfl (lv_at hl 1 rfl) ?_
            refine q_aldv (v := nI (T i 0)) hx hb hK hP 1 0 rfl rfl (by omega) (by decide) dX10_likes_55 ((hMT i hi).1) ?_
            refine lv_iload hx hb dX10_likes_56 (lv_at hl 5 rfl) ?_
            refine lv_aload_n hx hb dX10_likes_58 rfl (lv_at hl 0 rfl) ?_
            refine q_get (ci := 10) (CC := RX10) (T := TX10) (N := 24) (v := .ref mc) hx hb hts hin10 hown hK hP 0 rfl rfl 5 (by decide) (hts (.fieldLink RX10 23 "DearAsManyModel" "c" "[I") (by decide +kernel)) rfl rfl dX10_likes_59 ?_
            refine lv_iload_n hx hb dX10_likes_62 rfl (lv_at hl 1 rfl) ?_
            refine q_aldv (v := nI (T i 2)) hx hb hK hP 3 0 rfl rfl (by omega) (by decide) dX10_likes_63 ((hMT i hi).2.2.1) ?_
            refine lv_aload_n hx hb dX10_likes_64 rfl (lv_at hl 0 rfl) ?_
            refine q_get (ci := 10) (CC := RX10) (T := TX10) (N := 24) (v := .ref wo0) hx hb hts hin10 hown hK hP 0 rfl rfl 16 (by decide) (hts (.fieldLink RX10 44 "DearAsManyModel" "sightOthers" "[I") (by decide +kernel)) rfl rfl dX10_likes_65 ?_
            refine lv_iload hx hb dX10_likes_68 (lv_at hl 7 rfl) ?_
            refine q_aldv (v := nI (SO k)) hx hb hK hP 6 0 rfl rfl (by omega) (by decide) dX10_likes_70 ((hSg.2 k (by omega)).2.2.2.1) ?_
            refine q_si (As := [.int (nI (T i 0)), .int (nI j1), .int (nI (T i 2)), .int (nI (SO k))]) (rest := []) ⟨hx, hb, hml, hown, hts⟩ (c_X10_worthBy l (D := D) (cI := cI) (cB := cB) (cZ := cZ) (k := T i 0) (cc := T i 2) (o := SO k) (x := nI j1) ((hB.2 i hi).1) (by have := (hSg.2 k (by omega)).2.1; omega)) (va_cwS 4 hts gX10_likes_X10_worthBy rfl rfl rfl (by decide +kernel) ⟨Nat.le_of_ble_eq_true rfl, Nat.le_of_ble_eq_true rfl⟩) hK hP [] rfl rfl hl.1 rfl (Nat.le_of_ble_eq_true rfl) dX10_likes_71 ⟨Nat.zero_le _, Nat.zero_le _⟩ (fun r_71 hr_71 => ?_)
            have hr_71 : q_wby (T i 0) (nI j1) (T i 2) (SO k) = r_71 := (show r_71 = q_wby (T i 0) (nI j1) (T i 2) (SO k) from hr_71).symm
            subst hr_71
            refine lv_aload_n hx hb dX10_likes_74 rfl (lv_at hl 0 rfl) ?_
            refine q_get (ci := 10) (CC := RX10) (T := TX10) (N := 24) (v := .ref wo0) hx hb hts hin10 hown hK hP 0 rfl rfl 16 (by decide) (hts (.fieldLink RX10 44 "DearAsManyModel" "sightOthers" "[I") (by decide +kernel)) rfl rfl dX10_likes_75 ?_
            refine lv_iload hx hb dX10_likes_78 (lv_at hl 7 rfl) ?_
            refine q_aldv (v := nI (SO k)) hx hb hK hP 6 0 rfl rfl (by omega) (by decide) dX10_likes_80 ((hSg.2 k (by omega)).2.2.2.1) ?_
            refine lv_icmp_le (x := q_wby (T i 0) (nI j1) (T i 2) (SO k)) (y := nI (SO k)) (tgt := 88) hx hb dX10_likes_81 (by decide) (fun c_81 => ?_) (fun c_81 => ?_)
            · refine lv_iconst (v := nI 0) hx hb dX10_likes_88 (by decide) ?_
              refine lv_istore (lv' := [(8, .int (nI 0)), (0, .ref ma), (1, .int (nI i)), (2, .int v), (3, .int (nI ((q_lks (q_lkP T i sc SP SO SB) (100 - j)).1))), (4, .int ((q_lks (q_lkP T i sc SP SO SB) (100 - j)).2)), (5, .int (nI j1)), (6, .int (bI (q_ft T i j1 SP SO SB k))), (7, .int (nI k))]) hx hb dX10_likes_89 hl (by decide) rfl (fun ls hl => ?_)
              refine lv_iload hx hb dX10_likes_91 (lv_at hl 7 rfl) ?_
              refine q_beq (tgt := 123) hx hb dX10_likes_93 (by decide) (fun c_93 => ?_) (fun c_93 => ?_)
              · refine lv_iconst (v := nI 0) hx hb dX10_likes_123 (by decide) ?_
                refine lv_istore (lv' := [(6, .int (nI 0)), (8, .int (nI 0)), (0, .ref ma), (1, .int (nI i)), (2, .int v), (3, .int (nI ((q_lks (q_lkP T i sc SP SO SB) (100 - j)).1))), (4, .int ((q_lks (q_lkP T i sc SP SO SB) (100 - j)).2)), (5, .int (nI j1)), (7, .int (nI k))]) hx hb dX10_likes_124 hl (by decide) rfl (fun ls hl => ?_)
                refine lv_iinc (v := nI (k + 1)) (lv' := [(7, .int (nI (k + 1))), (6, .int (nI 0)), (8, .int (nI 0)), (0, .ref ma), (1, .int (nI i)), (2, .int v), (3, .int (nI ((q_lks (q_lkP T i sc SP SO SB) (100 - j)).1))), (4, .int ((q_lks (q_lkP T i sc SP SO SB) (100 - j)).2)), (5, .int (nI j1))]) hx hb dX10_likes_126 hl (k := 8) rfl (nI_add _ 1) (by decide) rfl (fun ls hl => ?_)
                refine lv_goto (tgt := 41) hx hb dX10_likes_129 (by decide) ?_
                have hl : lv_has ls 9 [(7, .int (nI (k + 1))), (6, .int (bI (q_ft T i j1 SP SO SB (k + 1)))), (8, .int (nI 0)), (0, .ref ma), (1, .int (nI i)), (2, .int v), (3, .int (nI ((q_lks (q_lkP T i sc SP SO SB) (100 - j)).1))), (4, .int ((q_lks (q_lkP T i sc SP SO SB) (100 - j)).2)), (5, .int (nI j1))] := by rw [← show nI 0 = bI (q_ft T i j1 SP SO SB (k + 1)) from by rw [q_ft1 c_93]; rfl]; exact hl
                exact ih41 (k + 1) j1 (hj1) (by omega) (by omega) ls (lv_sub hl [3, 4, 5, 6, 7, 8, 1, 0] rfl)
              · refine lv_aload_n hx hb dX10_likes_96 rfl (lv_at hl 1 rfl) ?_
                refine q_get (ci := 10) (CC := RX10) (T := TX10) (N := 24) (v := .ref wp0) hx hb hts hin10 hown hK hP 0 rfl rfl 15 (by decide) (hts (.fieldLink RX10 41 "DearAsManyModel" "sightWho" "[I") (by decide +kernel)) rfl rfl dX10_likes_97 ?_
                refine lv_iload hx hb dX10_likes_100 (lv_at hl 8 rfl) ?_
                refine q_aldv (v := nI (SP k)) hx hb hK hP 5 0 rfl rfl (by omega) (by decide) dX10_likes_102 ((hSg.2 k (by omega)).2.2.1) ?_
                refine lv_iload_n hx hb dX10_likes_103 rfl (lv_at hl 2 rfl) ?_
                refine q_nne (tgt := 119) hx hb dX10_likes_104 (by decide) (by have := (hSg.2 k (by omega)).1; omega) (by omega) (fun c_104 => ?_) (fun c_104 => ?_)
                · refine lv_iconst (v := nI 1) hx hb dX10_likes_119 (by decide) ?_
                  refine lv_goto (tgt := 124) hx hb dX10_likes_120 (by decide) ?_
                  refine lv_istore (lv' := [(6, .int (nI 1)), (8, .int (nI 0)), (0, .ref ma), (1, .int (nI i)), (2, .int v), (3, .int (nI ((q_lks (q_lkP T i sc SP SO SB) (100 - j)).1))), (4, .int ((q_lks (q_lkP T i sc SP SO SB) (100 - j)).2)), (5, .int (nI j1)), (7, .int (nI k))]) hx hb dX10_likes_124 hl (by decide) rfl (fun ls hl => ?_)
                  refine lv_iinc (v := nI (k + 1)) (lv' := [(7, .int (nI (k + 1))), (6, .int (nI 1)), (8, .int (nI 0)), (0, .ref ma), (1, .int (nI i)), (2, .int v), (3, .int (nI ((q_lks (q_lkP T i sc SP SO SB) (100 - j)).1))), (4, .int ((q_lks (q_lkP T i sc SP SO SB) (100 - j)).2)), (5, .int (nI j1))]) hx hb dX10_likes_126 hl (k := 8) rfl (nI_add _ 1) (by decide) rfl (fun ls hl => ?_)
                  refine lv_goto (tgt := 41) hx hb dX10_likes_129 (by decide) ?_
                  have hl : lv_has ls 9 [(7, .int (nI (k + 1))), (6, .int (bI (q_ft T i j1 SP SO SB (k + 1)))), (8, .int (nI 0)), (0, .ref ma), (1, .int (nI i)), (2, .int v), (3, .int (nI ((q_lks (q_lkP T i sc SP SO SB) (100 - j)).1))), (4, .int ((q_lks (q_lkP T i sc SP SO SB) (100 - j)).2)), (5, .int (nI j1))] := by rw [← show nI 1 = bI (q_ft T i j1 SP SO SB (k + 1)) from by rw [q_ftS c_93 (q_f1a c_104)]; rfl]; exact hl
                  exact ih41 (k + 1) j1 (hj1) (by omega) (by omega) ls (lv_sub hl [3, 4, 5, 6, 7, 8, 1, 0] rfl)
                · refine lv_iload hx hb dX10_likes_107 (lv_at hl 0 rfl) ?_
                  refine lv_aload_n hx hb dX10_likes_109 rfl (lv_at hl 1 rfl) ?_
                  refine q_get (ci := 10) (CC := RX10) (T := TX10) (N := 24) (v := .ref wb0) hx hb hts hin10 hown hK hP 0 rfl rfl 17 (by decide) (hts (.fieldLink RX10 47 "DearAsManyModel" "sightBought" "[Z") (by decide +kernel)) rfl rfl dX10_likes_110 ?_
                  refine lv_iload hx hb dX10_likes_113 (lv_at hl 8 rfl) ?_
                  refine q_zldv (v := bI (SB k)) hx hb hK hP 7 2 rfl rfl (by omega) (by decide) dX10_likes_115 ((hSg.2 k (by omega)).2.2.2.2) ?_
                  refine lv_icmp_ne (x := nI 0) (y := bI (SB k)) (tgt := 123) hx hb dX10_likes_116 (by decide) (fun c_116 => ?_) (fun c_116 => ?_)
                  · refine lv_iconst (v := nI 0) hx hb dX10_likes_123 (by decide) ?_
                    refine lv_istore (lv' := [(6, .int (nI 0)), (8, .int (nI 0)), (0, .ref ma), (1, .int (nI i)), (2, .int v), (3, .int (nI ((q_lks (q_lkP T i sc SP SO SB) (100 - j)).1))), (4, .int ((q_lks (q_lkP T i sc SP SO SB) (100 - j)).2)), (5, .int (nI j1)), (7, .int (nI k))]) hx hb dX10_likes_124 hl (by decide) rfl (fun ls hl => ?_)
                    refine lv_iinc (v := nI (k + 1)) (lv' := [(7, .int (nI (k + 1))), (6, .int (nI 0)), (8, .int (nI 0)), (0, .ref ma), (1, .int (nI i)), (2, .int v), (3, .int (nI ((q_lks (q_lkP T i sc SP SO SB) (100 - j)).1))), (4, .int ((q_lks (q_lkP T i sc SP SO SB) (100 - j)).2)), (5, .int (nI j1))]) hx hb dX10_likes_126 hl (k := 8) rfl (nI_add _ 1) (by decide) rfl (fun ls hl => ?_)
                    refine lv_goto (tgt := 41) hx hb dX10_likes_129 (by decide) ?_
                    have hl : lv_has ls 9 [(7, .int (nI (k + 1))), (6, .int (bI (q_ft T i j1 SP SO SB (k + 1)))), (8, .int (nI 0)), (0, .ref ma), (1, .int (nI i)), (2, .int v), (3, .int (nI ((q_lks (q_lkP T i sc SP SO SB) (100 - j)).1))), (4, .int ((q_lks (q_lkP T i sc SP SO SB) (100 - j)).2)), (5, .int (nI j1))] := by rw [← show nI 0 = bI (q_ft T i j1 SP SO SB (k + 1)) from by rw [q_ft2 (q_f1c c_104 (q_dF c_81) (q_b0n c_116))]; rfl]; exact hl
                    exact ih41 (k + 1) j1 (hj1) (by omega) (by omega) ls (lv_sub hl [3, 4, 5, 6, 7, 8, 1, 0] rfl)
                  · refine lv_iconst (v := nI 1) hx hb dX10_likes_119 (by decide) ?_
                    refine lv_goto (tgt := 124) hx hb dX10_likes_120 (by decide) ?_
                    refine lv_istore (lv' := [(6, .int (nI 1)), (8, .int (nI 0)), (0, .ref ma), (1, .int (nI i)), (2, .int v), (3, .int (nI ((q_lks (q_lkP T i sc SP SO SB) (100 - j)).1))), (4, .int ((q_lks (q_lkP T i sc SP SO SB) (100 - j)).2)), (5, .int (nI j1)), (7, .int (nI k))]) hx hb dX10_likes_124 hl (by decide) rfl (fun ls hl => ?_)
                    refine lv_iinc (v := nI (k + 1)) (lv' := [(7, .int (nI (k + 1))), (6, .int (nI 1)), (8, .int (nI 0)), (0, .ref ma), (1, .int (nI i)), (2, .int v), (3, .int (nI ((q_lks (q_lkP T i sc SP SO SB) (100 - j)).1))), (4, .int ((q_lks (q_lkP T i sc SP SO SB) (100 - j)).2)), (5, .int (nI j1))]) hx hb dX10_likes_126 hl (k := 8) rfl (nI_add _ 1) (by decide) rfl (fun ls hl => ?_)
                    refine lv_goto (tgt := 41) hx hb dX10_likes_129 (by decide) ?_
                    have hl : lv_has ls 9 [(7, .int (nI (k + 1))), (6, .int (bI (q_ft T i j1 SP SO SB (k + 1)))), (8, .int (nI 0)), (0, .ref ma), (1, .int (nI i)), (2, .int v), (3, .int (nI ((q_lks (q_lkP T i sc SP SO SB) (100 - j)).1))), (4, .int ((q_lks (q_lkP T i sc SP SO SB) (100 - j)).2)), (5, .int (nI j1))] := by rw [← show nI 1 = bI (q_ft T i j1 SP SO SB (k + 1)) from by rw [q_ftS c_93 (q_f1b (q_dF c_81) (q_b0 c_116))]; rfl]; exact hl
                    exact ih41 (k + 1) j1 (hj1) (by omega) (by omega) ls (lv_sub hl [3, 4, 5, 6, 7, 8, 1, 0] rfl)
            · refine lv_iconst (v := nI 1) hx hb dX10_likes_84 (by decide) ?_
              refine lv_goto (tgt := 89) hx hb dX10_likes_85 (by decide) ?_
              refine lv_istore (lv' := [(8, .int (nI 1)), (0, .ref ma), (1, .int (nI i)), (2, .int v), (3, .int (nI ((q_lks (q_lkP T i sc SP SO SB) (100 - j)).1))), (4, .int ((q_lks (q_lkP T i sc SP SO SB) (100 - j)).2)), (5, .int (nI j1)), (6, .int (bI (q_ft T i j1 SP SO SB k))), (7, .int (nI k))]) hx hb dX10_likes_89 hl (by decide) rfl (fun ls hl => ?_)
              refine lv_iload hx hb dX10_likes_91 (lv_at hl 7 rfl) ?_
              refine q_beq (tgt := 123) hx hb dX10_likes_93 (by decide) (fun c_93 => ?_) (fun c_93 => ?_)
              · refine lv_iconst (v := nI 0) hx hb dX10_likes_123 (by decide) ?_
                refine lv_istore (lv' := [(6, .int (nI 0)), (8, .int (nI 1)), (0, .ref ma), (1, .int (nI i)), (2, .int v), (3, .int (nI ((q_lks (q_lkP T i sc SP SO SB) (100 - j)).1))), (4, .int ((q_lks (q_lkP T i sc SP SO SB) (100 - j)).2)), (5, .int (nI j1)), (7, .int (nI k))]) hx hb dX10_likes_124 hl (by decide) rfl (fun ls hl => ?_)
                refine lv_iinc (v := nI (k + 1)) (lv' := [(7, .int (nI (k + 1))), (6, .int (nI 0)), (8, .int (nI 1)), (0, .ref ma), (1, .int (nI i)), (2, .int v), (3, .int (nI ((q_lks (q_lkP T i sc SP SO SB) (100 - j)).1))), (4, .int ((q_lks (q_lkP T i sc SP SO SB) (100 - j)).2)), (5, .int (nI j1))]) hx hb dX10_likes_126 hl (k := 8) rfl (nI_add _ 1) (by decide) rfl (fun ls hl => ?_)
                refine lv_goto (tgt := 41) hx hb dX10_likes_129 (by decide) ?_
                have hl : lv_has ls 9 [(7, .int (nI (k + 1))), (6, .int (bI (q_ft T i j1 SP SO SB (k + 1)))), (8, .int (nI 1)), (0, .ref ma), (1, .int (nI i)), (2, .int v), (3, .int (nI ((q_lks (q_lkP T i sc SP SO SB) (100 - j)).1))), (4, .int ((q_lks (q_lkP T i sc SP SO SB) (100 - j)).2)), (5, .int (nI j1))] := by rw [← show nI 0 = bI (q_ft T i j1 SP SO SB (k + 1)) from by rw [q_ft1 c_93]; rfl]; exact hl
                exact ih41 (k + 1) j1 (hj1) (by omega) (by omega) ls (lv_sub hl [3, 4, 5, 6, 7, 8, 1, 0] rfl)
              · refine lv_aload_n hx hb dX10_likes_96 rfl (lv_at hl 1 rfl) ?_
                refine q_get (ci := 10) (CC := RX10) (T := TX10) (N := 24) (v := .ref wp0) hx hb hts hin10 hown hK hP 0 rfl rfl 15 (by decide) (hts (.fieldLink RX10 41 "DearAsManyModel" "sightWho" "[I") (by decide +kernel)) rfl rfl dX10_likes_97 ?_
                refine lv_iload hx hb dX10_likes_100 (lv_at hl 8 rfl) ?_
                refine q_aldv (v := nI (SP k)) hx hb hK hP 5 0 rfl rfl (by omega) (by decide) dX10_likes_102 ((hSg.2 k (by omega)).2.2.1) ?_
                refine lv_iload_n hx hb dX10_likes_103 rfl (lv_at hl 2 rfl) ?_
                refine q_nne (tgt := 119) hx hb dX10_likes_104 (by decide) (by have := (hSg.2 k (by omega)).1; omega) (by omega) (fun c_104 => ?_) (fun c_104 => ?_)
                · refine lv_iconst (v := nI 1) hx hb dX10_likes_119 (by decide) ?_
                  refine lv_goto (tgt := 124) hx hb dX10_likes_120 (by decide) ?_
                  refine lv_istore (lv' := [(6, .int (nI 1)), (8, .int (nI 1)), (0, .ref ma), (1, .int (nI i)), (2, .int v), (3, .int (nI ((q_lks (q_lkP T i sc SP SO SB) (100 - j)).1))), (4, .int ((q_lks (q_lkP T i sc SP SO SB) (100 - j)).2)), (5, .int (nI j1)), (7, .int (nI k))]) hx hb dX10_likes_124 hl (by decide) rfl (fun ls hl => ?_)
                  refine lv_iinc (v := nI (k + 1)) (lv' := [(7, .int (nI (k + 1))), (6, .int (nI 1)), (8, .int (nI 1)), (0, .ref ma), (1, .int (nI i)), (2, .int v), (3, .int (nI ((q_lks (q_lkP T i sc SP SO SB) (100 - j)).1))), (4, .int ((q_lks (q_lkP T i sc SP SO SB) (100 - j)).2)), (5, .int (nI j1))]) hx hb dX10_likes_126 hl (k := 8) rfl (nI_add _ 1) (by decide) rfl (fun ls hl => ?_)
                  refine lv_goto (tgt := 41) hx hb dX10_likes_129 (by decide) ?_
                  have hl : lv_has ls 9 [(7, .int (nI (k + 1))), (6, .int (bI (q_ft T i j1 SP SO SB (k + 1)))), (8, .int (nI 1)), (0, .ref ma), (1, .int (nI i)), (2, .int v), (3, .int (nI ((q_lks (q_lkP T i sc SP SO SB) (100 - j)).1))), (4, .int ((q_lks (q_lkP T i sc SP SO SB) (100 - j)).2)), (5, .int (nI j1))] := by rw [← show nI 1 = bI (q_ft T i j1 SP SO SB (k + 1)) from by rw [q_ftS c_93 (q_f1a c_104)]; rfl]; exact hl
                  exact ih41 (k + 1) j1 (hj1) (by omega) (by omega) ls (lv_sub hl [3, 4, 5, 6, 7, 8, 1, 0] rfl)
                · refine lv_iload hx hb dX10_likes_107 (lv_at hl 0 rfl) ?_
                  refine lv_aload_n hx hb dX10_likes_109 rfl (lv_at hl 1 rfl) ?_
                  refine q_get (ci := 10) (CC := RX10) (T := TX10) (N := 24) (v := .ref wb0) hx hb hts hin10 hown hK hP 0 rfl rfl 17 (by decide) (hts (.fieldLink RX10 47 "DearAsManyModel" "sightBought" "[Z") (by decide +kernel)) rfl rfl dX10_likes_110 ?_
                  refine lv_iload hx hb dX10_likes_113 (lv_at hl 8 rfl) ?_
                  refine q_zldv (v := bI (SB k)) hx hb hK hP 7 2 rfl rfl (by omega) (by decide) dX10_likes_115 ((hSg.2 k (by omega)).2.2.2.2) ?_
                  refine lv_icmp_ne (x := nI 1) (y := bI (SB k)) (tgt := 123) hx hb dX10_likes_116 (by decide) (fun c_116 => ?_) (fun c_116 => ?_)
                  · refine lv_iconst (v := nI 0) hx hb dX10_likes_123 (by decide) ?_
                    refine lv_istore (lv' := [(6, .int (nI 0)), (8, .int (nI 1)), (0, .ref ma), (1, .int (nI i)), (2, .int v), (3, .int (nI ((q_lks (q_lkP T i sc SP SO SB) (100 - j)).1))), (4, .int ((q_lks (q_lkP T i sc SP SO SB) (100 - j)).2)), (5, .int (nI j1)), (7, .int (nI k))]) hx hb dX10_likes_124 hl (by decide) rfl (fun ls hl => ?_)
                    refine lv_iinc (v := nI (k + 1)) (lv' := [(7, .int (nI (k + 1))), (6, .int (nI 0)), (8, .int (nI 1)), (0, .ref ma), (1, .int (nI i)), (2, .int v), (3, .int (nI ((q_lks (q_lkP T i sc SP SO SB) (100 - j)).1))), (4, .int ((q_lks (q_lkP T i sc SP SO SB) (100 - j)).2)), (5, .int (nI j1))]) hx hb dX10_likes_126 hl (k := 8) rfl (nI_add _ 1) (by decide) rfl (fun ls hl => ?_)
                    refine lv_goto (tgt := 41) hx hb dX10_likes_129 (by decide) ?_
                    have hl : lv_has ls 9 [(7, .int (nI (k + 1))), (6, .int (bI (q_ft T i j1 SP SO SB (k + 1)))), (8, .int (nI 1)), (0, .ref ma), (1, .int (nI i)), (2, .int v), (3, .int (nI ((q_lks (q_lkP T i sc SP SO SB) (100 - j)).1))), (4, .int ((q_lks (q_lkP T i sc SP SO SB) (100 - j)).2)), (5, .int (nI j1))] := by rw [← show nI 0 = bI (q_ft T i j1 SP SO SB (k + 1)) from by rw [q_ft2 (q_f1c c_104 (q_dT c_81) (q_b1n c_116))]; rfl]; exact hl
                    exact ih41 (k + 1) j1 (hj1) (by omega) (by omega) ls (lv_sub hl [3, 4, 5, 6, 7, 8, 1, 0] rfl)
                  · refine lv_iconst (v := nI 1) hx hb dX10_likes_119 (by decide) ?_
                    refine lv_goto (tgt := 124) hx hb dX10_likes_120 (by decide) ?_
                    refine lv_istore (lv' := [(6, .int (nI 1)), (8, .int (nI 1)), (0, .ref ma), (1, .int (nI i)), (2, .int v), (3, .int (nI ((q_lks (q_lkP T i sc SP SO SB) (100 - j)).1))), (4, .int ((q_lks (q_lkP T i sc SP SO SB) (100 - j)).2)), (5, .int (nI j1)), (7, .int (nI k))]) hx hb dX10_likes_124 hl (by decide) rfl (fun ls hl => ?_)
                    refine lv_iinc (v := nI (k + 1)) (lv' := [(7, .int (nI (k + 1))), (6, .int (nI 1)), (8, .int (nI 1)), (0, .ref ma), (1, .int (nI i)), (2, .int v), (3, .int (nI ((q_lks (q_lkP T i sc SP SO SB) (100 - j)).1))), (4, .int ((q_lks (q_lkP T i sc SP SO SB) (100 - j)).2)), (5, .int (nI j1))]) hx hb dX10_likes_126 hl (k := 8) rfl (nI_add _ 1) (by decide) rfl (fun ls hl => ?_)
                    refine lv_goto (tgt := 41) hx hb dX10_likes_129 (by decide) ?_
                    have hl : lv_has ls 9 [(7, .int (nI (k + 1))), (6, .int (bI (q_ft T i j1 SP SO SB (k + 1)))), (8, .int (nI 1)), (0, .ref ma), (1, .int (nI i)), (2, .int v), (3, .int (nI ((q_lks (q_lkP T i sc SP SO SB) (100 - j)).1))), (4, .int ((q_lks (q_lkP T i sc SP SO SB) (100 - j)).2)), (5, .int (nI j1))] := by rw [← show nI 1 = bI (q_ft T i j1 SP SO SB (k + 1)) from by rw [q_ftS c_93 (q_f1b (q_dT c_81) (q_b1' c_116))]; rfl]; exact hl
                    exact ih41 (k + 1) j1 (hj1) (by omega) (by omega) ls (lv_sub hl [3, 4, 5, 6, 7, 8, 1, 0] rfl)
      rcases q_zs j with hz | ⟨j1, hj1⟩
      · have hl : lv_has ls 9 [(0, .ref ma), (1, .int (nI i)), (2, .int v), (3, .int (nI ((q_lks (q_lkP T i sc SP SO SB) (100 - j)).1))), (4, .int ((q_lks (q_lkP T i sc SP SO SB) (100 - j)).2)), (5, .int (-1 : Int32))] := by rw [← show q_pr j = (-1 : Int32) from by rw [hz]; rfl]; exact hl
        refine lv_iload hx hb dX10_likes_30 (lv_at hl 5 rfl) ?_
        refine lv_if_lt (x := (-1 : Int32)) (tgt := 165) hx hb dX10_likes_32 (by decide) (fun c_32 => ?_) (fun c_32 => ?_)
        · refine lv_iload_n hx hb dX10_likes_165 rfl (lv_at hl 2 rfl) ?_
          refine lv_if_ne (x := v) (tgt := 173) hx hb dX10_likes_166 (by decide) (fun c_166 => ?_) (fun c_166 => ?_)
          · refine lv_iload hx hb dX10_likes_173 (lv_at hl 4 rfl) ?_
            exact q_zret (v := (q_lks (q_lkP T i sc SP SO SB) (100 - j)).2) hx hb hr hlocks (rfl) (show (q_lks (q_lkP T i sc SP SO SB) (100 - j)).2 = A_likes T n sc SP SO SB w v from by simp only [A_likes, hw]; rw [if_neg (show ¬ v = nI 0 from c_166), if_pos (show v = nI 1 from (of_decide_eq_true hv).elim (fun z => absurd z c_166) id), hz]) dX10_likes_175
          · refine lv_iload_n hx hb dX10_likes_169 rfl (lv_at hl 3 rfl) ?_
            refine lv_goto (tgt := 175) hx hb dX10_likes_170 (by decide) ?_
            exact q_zret (v := nI ((q_lks (q_lkP T i sc SP SO SB) (100 - j)).1)) hx hb hr hlocks (rfl) (show nI ((q_lks (q_lkP T i sc SP SO SB) (100 - j)).1) = A_likes T n sc SP SO SB w v from by simp only [A_likes, hw]; rw [if_pos (show v = nI 0 from c_166), hz]) dX10_likes_175
        · exact absurd c_32 ((by decide))
      · have hl : lv_has ls 9 [(0, .ref ma), (1, .int (nI i)), (2, .int v), (3, .int (nI ((q_lks (q_lkP T i sc SP SO SB) (100 - j)).1))), (4, .int ((q_lks (q_lkP T i sc SP SO SB) (100 - j)).2)), (5, .int (nI j1))] := by rw [← show q_pr j = nI j1 from by rw [hj1]; rfl]; exact hl
        refine lv_iload hx hb dX10_likes_30 (lv_at hl 5 rfl) ?_
        refine q_zlt (tgt := 165) hx hb dX10_likes_32 (by decide) (by omega) (fun c_32 => ?_) (fun c_32 => ?_)
        · exact absurd c_32 (Nat.not_lt_zero _)
        · refine lv_iconst (v := bI true) hx hb dX10_likes_35 (by decide) ?_
          refine lv_istore (lv' := [(6, .int (bI true)), (0, .ref ma), (1, .int (nI i)), (2, .int v), (3, .int (nI ((q_lks (q_lkP T i sc SP SO SB) (100 - j)).1))), (4, .int ((q_lks (q_lkP T i sc SP SO SB) (100 - j)).2)), (5, .int (nI j1))]) hx hb dX10_likes_36 hl (by decide) rfl (fun ls hl => ?_)
          refine lv_iconst (v := nI 0) hx hb dX10_likes_38 (by decide) ?_
          refine lv_istore (lv' := [(7, .int (nI 0)), (6, .int (bI true)), (0, .ref ma), (1, .int (nI i)), (2, .int v), (3, .int (nI ((q_lks (q_lkP T i sc SP SO SB) (100 - j)).1))), (4, .int ((q_lks (q_lkP T i sc SP SO SB) (100 - j)).2)), (5, .int (nI j1))]) hx hb dX10_likes_39 hl (by decide) rfl (fun ls hl => ?_)
          exact L41 _ 0 j1 (hj1) (Nat.zero_le _) (Nat.lt_succ_self _) ls (lv_sub hl [2, 3, 4, 5, 6, 7, 1, 0] rfl)
  rcases hw : q_ix (n) w with _ | i
  · refine lv_aload_n hx hb dX10_likes_0 rfl (lv_at hl 0 rfl) ?_
    refine lv_iload_n hx hb dX10_likes_1 rfl (lv_at hl 1 rfl) ?_
    refine q_vi (As := [.int w]) (rest := []) ⟨hx, hb, hml, hown, hts⟩ (c_X10_isPerson l (D := D) (cI := cI) (cB := cB) (cZ := cZ) (ma := ma) (mt := mt) (mk := mk) (mw := mw) (mc := mc) (mh := mh) (mp := mp) (mb := mb) (me := me) (wp0 := wp0) (wo0 := wo0) (wb0 := wb0) (mr := mr) (ml := ml) (tn := tn) (n := n) (ow := ow) (uc := uc) (kc := kc) (sc := sc) (ss := ss) (at0 := at0) (rm0 := rm0) (ro0 := ro0) (rs0 := rs0) (w := w) (by first | assumption | exact Nat.zero_le _ | omega) (by omega)) (cwV 1 hts gX10_likes_X10_isPerson rfl rfl rfl (by decide +kernel) ⟨Nat.le_of_ble_eq_true rfl, Nat.le_of_ble_eq_true rfl⟩) hK hP [0] rfl 0 10 rfl rfl rfl rfl hl.1 rfl (Nat.le_of_ble_eq_true rfl) dX10_likes_2 ⟨Nat.zero_le _, Nat.zero_le _⟩ (fun r_2 hr_2 => ?_)
    have hr_2 : bI false = r_2 := (Eq.trans (show r_2 = bI ((q_ix n w).isSome) from hr_2) (by rw [hw]; rfl)).symm
    subst hr_2
    refine q_beq (tgt := 18) hx hb dX10_likes_5 (by decide) (fun c_5 => ?_) (fun c_5 => ?_)
    · refine lv_iconst (v := (-1 : Int32)) hx hb dX10_likes_18 (by decide) ?_
      exact q_zret (v := (-1 : Int32)) hx hb hr hlocks (rfl) (show (-1 : Int32) = A_likes T n sc SP SO SB w v from by simp only [A_likes, hw]) dX10_likes_19
    · exact absurd c_5 (by decide)
  · have hwe := q_ixS hw
    have hl : lv_has ls 9 [(0, .ref ma), (1, .int (nI i)), (2, .int v)] := by rw [← show w = nI i from hwe.1]; exact hl
    refine lv_aload_n hx hb dX10_likes_0 rfl (lv_at hl 0 rfl) ?_
    refine lv_iload_n hx hb dX10_likes_1 rfl (lv_at hl 1 rfl) ?_
    refine q_vi (As := [.int (nI i)]) (rest := []) ⟨hx, hb, hml, hown, hts⟩ (c_X10_isPerson l (D := D) (cI := cI) (cB := cB) (cZ := cZ) (ma := ma) (mt := mt) (mk := mk) (mw := mw) (mc := mc) (mh := mh) (mp := mp) (mb := mb) (me := me) (wp0 := wp0) (wo0 := wo0) (wb0 := wb0) (mr := mr) (ml := ml) (tn := tn) (n := n) (ow := ow) (uc := uc) (kc := kc) (sc := sc) (ss := ss) (at0 := at0) (rm0 := rm0) (ro0 := ro0) (rs0 := rs0) (w := nI i) (by first | assumption | exact Nat.zero_le _ | omega) (by omega)) (cwV 1 hts gX10_likes_X10_isPerson rfl rfl rfl (by decide +kernel) ⟨Nat.le_of_ble_eq_true rfl, Nat.le_of_ble_eq_true rfl⟩) hK hP [0] rfl 0 10 rfl rfl rfl rfl hl.1 rfl (Nat.le_of_ble_eq_true rfl) dX10_likes_2 ⟨Nat.zero_le _, Nat.zero_le _⟩ (fun r_2 hr_2 => ?_)
    have hr_2 : bI true = r_2 := (Eq.trans (show r_2 = bI ((q_ix n (nI i)).isSome) from hr_2) (by rw [q_ixI hwe.2 (by omega)]; rfl)).symm
    subst hr_2
    refine q_beq (tgt := 18) hx hb dX10_likes_5 (by decide) (fun c_5 => ?_) (fun c_5 => ?_)
    · exact absurd c_5 (by decide)
    · refine lv_iload_n hx hb dX10_likes_8 rfl (lv_at hl 2 rfl) ?_
      refine lv_i2l (v := v.toInt64) hx hb dX10_likes_9 (rfl) ?_
      refine lv_lconst (v := (0 : Int64)) hx hb dX10_likes_10 (by decide) ?_
      refine lv_lconst (v := (1 : Int64)) hx hb dX10_likes_11 (by decide) ?_
      refine q_si (As := [.long v.toInt64, .long (0 : Int64), .long (1 : Int64)]) (rest := []) ⟨hx, hb, hml, hown, hts⟩ (c_X10_in l (D := D) (cI := cI) (cB := cB) (cZ := cZ) (a1 := v.toInt64) (b1 := (0 : Int64)) (c1 := (1 : Int64)) ) (va_cwS 3 hts gX10_likes_X10_in rfl rfl rfl (by decide +kernel) ⟨Nat.le_of_ble_eq_true rfl, Nat.le_of_ble_eq_true rfl⟩) hK hP [] rfl rfl hl.1 rfl (Nat.le_of_ble_eq_true rfl) dX10_likes_12 ⟨Nat.zero_le _, Nat.zero_le _⟩ (fun r_12 hr_12 => ?_)
      have hr_12 : bI (q_eit v) = r_12 := (Eq.trans (show r_12 = bI (q_inb v.toInt64 (0 : Int64) (1 : Int64)) from hr_12) (q_inEit _)).symm
      subst hr_12
      refine q_bne (tgt := 20) hx hb dX10_likes_15 (by decide) (fun c_15 => ?_) (fun c_15 => ?_)
      · refine lv_iconst (v := nI 0) hx hb dX10_likes_20 (by decide) ?_
        refine lv_istore_n (lv' := [(3, .int (nI 0)), (0, .ref ma), (1, .int (nI i)), (2, .int v)]) hx hb dX10_likes_21 rfl hl (by decide) rfl (fun ls hl => ?_)
        refine lv_bipush (v := (-4 : Int32)) hx hb dX10_likes_22 (by decide) ?_
        refine lv_istore (lv' := [(4, .int (-4 : Int32)), (3, .int (nI 0)), (0, .ref ma), (1, .int (nI i)), (2, .int v)]) hx hb dX10_likes_24 hl (by decide) rfl (fun ls hl => ?_)
        refine lv_bipush (v := nI 99) hx hb dX10_likes_26 (by decide) ?_
        refine lv_istore (lv' := [(5, .int (nI 99)), (4, .int (-4 : Int32)), (3, .int (nI 0)), (0, .ref ma), (1, .int (nI i)), (2, .int v)]) hx hb dX10_likes_28 hl (by decide) rfl (fun ls hl => ?_)
        exact L30 _ 100 i (by decide) (hw) (hwe.2) (c_15) (Nat.lt_succ_self _) ls (lv_sub hl [3, 4, 5, 2, 1, 0] rfl)
      · refine lv_iconst (v := (-1 : Int32)) hx hb dX10_likes_18 (by decide) ?_
        exact q_zret (v := (-1 : Int32)) hx hb hr hlocks (rfl) (show (-1 : Int32) = A_likes T n sc SP SO SB w v from by simp only [A_likes, hw]; rw [if_neg (q_eitN c_15).1, if_neg (q_eitN c_15).2]) dX10_likes_19

set_option maxHeartbeats 4000000 in
set_option maxRecDepth 100000 in
theorem c_X10_year (l : Launch) {D : va_G} {cI cB cZ : ClassId} {ma : Nat} {mt : Nat} {mk : Nat} {mw : Nat} {mc : Nat} {mh : Nat} {mp : Nat} {mb : Nat} {me : Nat} {wp0 : Nat} {wo0 : Nat} {wb0 : Nat} {mr : Nat} {ml : Nat} {tn : Nat} {n : Nat} {ow : Nat} {uc : Nat} {kc : Nat} {sc : Nat} {ss : Int32} {at0 : Int32} {rm0 : Int32} {ro0 : Int32} {rs0 : Int32} {mK : Nat → Int32} {mW : Nat → Int32} {mC : Nat → Int32} {mH : Nat → Int32} {T : Nat → Nat → Nat} {w : Int32} {v : Int32} {y : Int32} {zz : Nat} (hMT : q_MT T n mK mW mC mH) (hB : q_Bd T n) (hn1 : 1 ≤ n) (how : ow < 2 ^ n) : Met l yX10_year wsX10_year ({ frames := 6, cells := 0, slots := 0, locals := 137 } : Room) (va_Pc [.ref ma, .int w, .int v, .int y] (q_M D (q_tys cI cB cZ) [(ma, .inr (10, [.ref mt, .int (nI tn), .int (nI n), .ref mk, .ref mw, .ref mc, .ref mh, .ref mp, .int (nI ow), .int ss, .int (nI uc), .ref mb, .int (nI kc), .ref me, .int (nI sc), .ref wp0, .ref wo0, .ref wb0, .int at0, .int rm0, .int ro0, .int rs0, .ref mr, .ref ml])), (mk, .inl (cI, 7, .inl mK)), (mw, .inl (cI, 7, .inl mW)), (mc, .inl (cI, 7, .inl mC)), (mh, .inl (cI, 7, .inl mH))] zz)) (va_Qi (S := Unit) (fun r _ => r = A_year T n ow w v y) (fun u t => va_P D vwCl ((fun _ => [(ma, .inr (10, [.ref mt, .int (nI tn), .int (nI n), .ref mk, .ref mw, .ref mc, .ref mh, .ref mp, .int (nI ow), .int ss, .int (nI uc), .ref mb, .int (nI kc), .ref me, .int (nI sc), .ref wp0, .ref wo0, .ref wb0, .int at0, .int rm0, .int ro0, .int rs0, .ref mr, .ref ml])), (mk, .inl (cI, 7, .inl mK)), (mw, .inl (cI, 7, .inl mW)), (mc, .inl (cI, 7, .inl mC)), (mh, .inl (cI, 7, .inl mH))]) u) t.heap) (va_A [(ma, .inr (10, [.ref mt, .int (nI tn), .int (nI n), .ref mk, .ref mw, .ref mc, .ref mh, .ref mp, .int (nI ow), .int ss, .int (nI uc), .ref mb, .int (nI kc), .ref me, .int (nI sc), .ref wp0, .ref wo0, .ref wb0, .int at0, .int rm0, .int ro0, .int rs0, .ref mr, .ref ml])), (mk, .inl (cI, 7, .inl mK)), (mw, .inl (cI, 7, .inl mW)), (mc, .inl (cI, 7, .inl mC)), (mh, .inl (cI, 7, .inl mH))] zz)) 0 0 (va_A [(ma, .inr (10, [.ref mt, .int (nI tn), .int (nI n), .ref mk, .ref mw, .ref mc, .ref mh, .ref mp, .int (nI ow), .int ss, .int (nI uc), .ref mb, .int (nI kc), .ref me, .int (nI sc), .ref wp0, .ref wo0, .ref wb0, .int at0, .int rm0, .int ro0, .int rs0, .ref mr, .ref ml])), (mk, .inl (cI, 7, .inl mK)), (mw, .inl (cI, 7, .inl mW)), (mc, .inl (cI, 7, .inl mC)), (mh, .inl (cI, 7, .inl mH))] zz) := by
  refine Met.ofW (cc := cX10_year) (maxL := 11) (ret := (some .int)) (by decide) rfl ?_
  intro p e s m args below meth c s₁ B hml hv
  obtain ⟨rfl, hsz, hP, hK, hD0⟩ := hv
  have hx := B.exec
  have hb := B.bytes
  have hr := B.returns
  have hts := atoms_spec (ws := wsX10_year) B.pre
  have hown : s.vm.findClass RX10 = some m.cls := findClass_of_methodNamed B.named
  have hlocks := B.notSynchronized
  have hin10 : ∀ w ∈ u_ws RX10 TX10 24, w ∈ wsX10_year := by decide +kernel
  subst hsz
  have hD := hD0.self (sz := s.heap.size)
  generalize hAe : va_A [(ma, .inr (10, [.ref mt, .int (nI tn), .int (nI n), .ref mk, .ref mw, .ref mc, .ref mh, .ref mp, .int (nI ow), .int ss, .int (nI uc), .ref mb, .int (nI kc), .ref me, .int (nI sc), .ref wp0, .ref wo0, .ref wb0, .int at0, .int rm0, .int ro0, .int rs0, .ref mr, .ref ml])), (mk, .inl (cI, 7, .inl mK)), (mw, .inl (cI, 7, .inl mW)), (mc, .inl (cI, 7, .inl mC)), (mh, .inl (cI, 7, .inl mH))] s.heap.size = A at hD ⊢
  have hA : ∀ q : Nat, s.heap.size ≤ q → A q := fun q h => by rw [← hAe]; exact Or.inr h
  have hS : va_S A s.heap s.heap [] := va_S.rf
  have hP : va_P D vwCl [(ma, .inr (10, [.ref mt, .int (nI tn), .int (nI n), .ref mk, .ref mw, .ref mc, .ref mh, .ref mp, .int (nI ow), .int ss, .int (nI uc), .ref mb, .int (nI kc), .ref me, .int (nI sc), .ref wp0, .ref wo0, .ref wb0, .int at0, .int rm0, .int ro0, .int rs0, .ref mr, .ref ml])), (mk, .inl (cI, 7, .inl mK)), (mw, .inl (cI, 7, .inl mW)), (mc, .inl (cI, 7, .inl mC)), (mh, .inl (cI, 7, .inl mH))] s.heap := hP
  have hl := lv_entry ([.ref ma, .int w, .int v, .int y]) (n := 11) (Nat.le_of_ble_eq_true rfl)
  rw [lg_entry_eq]
  generalize (lg_sl ([.ref ma, .int w, .int v, .int y]) ++ List.replicate (11 - (lg_sl ([.ref ma, .int w, .int v, .int y])).length) Slot.unset).toArray = ls at hl ⊢
  have hl : lv_has ls 11 [(0, .ref ma), (1, .int w), (2, .int v), (3, .int y)] := hl
  have hn7 := hB.1
  have hp2 : 2 ^ n ≤ 128 := q_p2 hB.1
  have ho128 := q_S128 hB how
  have L57 : ∀ (fuel : Nat) (z : Nat) (d : Nat) (k : Nat) (se1 : Int32) (hwz : q_ix 10000 w = some z ∧ q_ix 101 v = some d) (hd : 1 ≤ d ∧ d ≤ 100) (hy : q_eit y = true) (hk : k ≤ d) (hf : d - k < fuel) (H : Heap) (locs : List Loc) (hP : va_P D vwCl [(ma, .inr (10, [.ref mt, .int (nI tn), .int (nI n), .ref mk, .ref mw, .ref mc, .ref mh, .ref mp, .int (nI ow), .int se1, .int (nI uc), .ref mb, .int (nI kc), .ref me, .int (nI sc), .ref wp0, .ref wo0, .ref wb0, .int at0, .int rm0, .int ro0, .int rs0, .ref mr, .ref ml])), (mk, .inl (cI, 7, .inl mK)), (mw, .inl (cI, 7, .inl mW)), (mc, .inl (cI, 7, .inl mC)), (mh, .inl (cI, 7, .inl mH))] H) (hD : va_D A [(ma, .inr (10, [.ref mt, .int (nI tn), .int (nI n), .ref mk, .ref mw, .ref mc, .ref mh, .ref mp, .int (nI ow), .int se1, .int (nI uc), .ref mb, .int (nI kc), .ref me, .int (nI sc), .ref wp0, .ref wo0, .ref wb0, .int at0, .int rm0, .int ro0, .int rs0, .ref mr, .ref ml])), (mk, .inl (cI, 7, .inl mK)), (mw, .inl (cI, 7, .inl mW)), (mc, .inl (cI, 7, .inl mC)), (mh, .inl (cI, 7, .inl mH))]) (hS : va_S A s.heap H locs) (ls : Array Slot) (hl : lv_has ls 11 [(0, .ref ma), (1, .int (nI z)), (2, .int (nI d)), (3, .int y), (4, .int ss), (5, .int (nI (q_yr T n z ow k))), (6, .int ((q_by (fun j => pop8 (q_yr T n z ow j)) k).2)), (7, .int (nI ((q_by (fun j => pop8 (q_yr T n z ow j)) k).1))), (8, .int (nI k))]), W p l e (headSpec wsX10_year ({ frames := 6, cells := 0, slots := 0, locals := 137 } : Room)).room s m ([.ref ma, .int w, .int v, .int y] : List Value).toArray below meth c H locs 0 0 (MQ below (va_Qi (S := Unit) (fun r _ => r = A_year T n ow w v y) (fun u t => va_P D vwCl ((fun _ => [(ma, .inr (10, [.ref mt, .int (nI tn), .int (nI n), .ref mk, .ref mw, .ref mc, .ref mh, .ref mp, .int (nI ow), .int ss, .int (nI uc), .ref mb, .int (nI kc), .ref me, .int (nI sc), .ref wp0, .ref wo0, .ref wb0, .int at0, .int rm0, .int ro0, .int rs0, .ref mr, .ref ml])), (mk, .inl (cI, 7, .inl mK)), (mw, .inl (cI, 7, .inl mW)), (mc, .inl (cI, 7, .inl mC)), (mh, .inl (cI, 7, .inl mH))]) u) t.heap) A) ([.ref ma, .int w, .int v, .int y] : List Value).toArray s 0 0 A) (F0 m 57 ls []) := by
    intro fuel
    induction fuel with
    | zero =>
      intro z d k se1 hwz hd hy hk hf H locs hP hD hS ls hl
      exact absurd hf (Nat.not_lt_zero _)
    | succ fuel ih57 =>
      intro z d k se1 hwz hd hy hk hf H locs hP hD hS ls hl
      refine lv_iload hx hb dX10_year_57 (lv_at hl 8 rfl) ?_
      refine lv_iload_n hx hb dX10_year_59 rfl (lv_at hl 2 rfl) ?_
      refine q_nge (tgt := 155) hx hb dX10_year_60 (by decide) (by omega) (by omega) (fun c_60 => ?_) (fun c_60 => ?_)
      · refine lv_aload_n hx hb dX10_year_155 rfl (lv_at hl 0 rfl) ?_
        refine lv_iload hx hb dX10_year_156 (lv_at hl 4 rfl) ?_
        refine q_put (ci := 10) (CC := RX10) (T := TX10) (N := 24) (w2 := [(ma, .inr (10, [.ref mt, .int (nI tn), .int (nI n), .ref mk, .ref mw, .ref mc, .ref mh, .ref mp, .int (nI ow), .int ss, .int (nI uc), .ref mb, .int (nI kc), .ref me, .int (nI sc), .ref wp0, .ref wo0, .ref wb0, .int at0, .int rm0, .int ro0, .int rs0, .ref mr, .ref ml])), (mk, .inl (cI, 7, .inl mK)), (mw, .inl (cI, 7, .inl mW)), (mc, .inl (cI, 7, .inl mC)), (mh, .inl (cI, 7, .inl mH))]) hx hb hts hin10 tyX10 tyX10_ok nmX10 hown hK hP hD hS 0 rfl rfl 9 (by decide) (hts (.fieldLink RX10 32 "DearAsManyModel" "season" "I") (by decide +kernel)) rfl rfl rfl (Nat.le_of_ble_eq_true rfl) dX10_year_158 rfl (fun H locs hP hD hS => ?_)
        refine lv_iload_n hx hb dX10_year_161 rfl (lv_at hl 3 rfl) ?_
        refine lv_if_ne (x := y) (tgt := 173) hx hb dX10_year_162 (by decide) (fun c_162 => ?_) (fun c_162 => ?_)
        · refine lv_iload hx hb dX10_year_173 (lv_at hl 7 rfl) ?_
          exact q_mret (S := Unit) (v := nI ((q_by (fun j => pop8 (q_yr T n z ow j)) k).1)) (w1 := fun _ => [(ma, .inr (10, [.ref mt, .int (nI tn), .int (nI n), .ref mk, .ref mw, .ref mc, .ref mh, .ref mp, .int (nI ow), .int ss, .int (nI uc), .ref mb, .int (nI kc), .ref me, .int (nI sc), .ref wp0, .ref wo0, .ref wb0, .int at0, .int rm0, .int ro0, .int rs0, .ref mr, .ref ml])), (mk, .inl (cI, 7, .inl mK)), (mw, .inl (cI, 7, .inl mW)), (mc, .inl (cI, 7, .inl mC)), (mh, .inl (cI, 7, .inl mH))]) () hx hb hr hlocks (rfl) hP hS dX10_year_175 (by simp only [A_year, hwz.1, hwz.2]; rw [if_neg (by omega), if_neg (show ¬ y = nI 0 from c_162), if_pos (show y = nI 1 from (of_decide_eq_true hy).elim (fun z => absurd z c_162) id), show k = d from by omega])
        · refine lv_iload hx hb dX10_year_165 (lv_at hl 5 rfl) ?_
          refine q_si (As := [.int (nI (q_yr T n z ow k))]) (rest := []) ⟨hx, hb, hml, hown, hts⟩ (c_X10_bits l (D := D) (cI := cI) (cB := cB) (cZ := cZ) (S := q_yr T n z ow k) (by have := q_yr_lt (T := T) (z := z) how k; omega)) (va_cwS 1 hts gX10_year_X10_bits rfl rfl rfl (by decide +kernel) ⟨Nat.le_of_ble_eq_true rfl, Nat.le_of_ble_eq_true rfl⟩) hK hP [] rfl rfl hl.1 rfl (Nat.le_of_ble_eq_true rfl) dX10_year_167 ⟨Nat.zero_le _, Nat.zero_le _⟩ (fun r_167 hr_167 => ?_)
          have hr_167 : nI (pop8 (q_yr T n z ow k)) = r_167 := (show r_167 = nI (pop8 (q_yr T n z ow k)) from hr_167).symm
          subst hr_167
          refine lv_goto (tgt := 175) hx hb dX10_year_170 (by decide) ?_
          exact q_mret (S := Unit) (v := nI (pop8 (q_yr T n z ow k))) (w1 := fun _ => [(ma, .inr (10, [.ref mt, .int (nI tn), .int (nI n), .ref mk, .ref mw, .ref mc, .ref mh, .ref mp, .int (nI ow), .int ss, .int (nI uc), .ref mb, .int (nI kc), .ref me, .int (nI sc), .ref wp0, .ref wo0, .ref wb0, .int at0, .int rm0, .int ro0, .int rs0, .ref mr, .ref ml])), (mk, .inl (cI, 7, .inl mK)), (mw, .inl (cI, 7, .inl mW)), (mc, .inl (cI, 7, .inl mC)), (mh, .inl (cI, 7, .inl mH))]) () hx hb hr hlocks (rfl) hP hS dX10_year_175 (by simp only [A_year, hwz.1, hwz.2]; rw [if_neg (by omega), if_pos (show y = nI 0 from c_162), show k = d from by omega])
      · refine lv_ldc2 (v := (7919 : Int64)) hx hb hown (hts (.constantLong RX10 172 (7919)) (by decide +kernel)) dX10_year_63 ?_
        refine lv_iload_n hx hb dX10_year_66 rfl (lv_at hl 1 rfl) ?_
        refine lv_i2l (v := (nI z).toInt64) hx hb dX10_year_67 (rfl) ?_
        refine q_lmul (v := (7919 : Int64) * ((nI z).toInt64)) hx hb dX10_year_68 (rfl) ?_
        refine lv_ldc2 (v := (6151 : Int64)) hx hb hown (hts (.constantLong RX10 174 (6151)) (by decide +kernel)) dX10_year_69 ?_
        refine lv_iload hx hb dX10_year_72 (lv_at hl 8 rfl) ?_
        refine lv_i2l (v := (nI k).toInt64) hx hb dX10_year_74 (rfl) ?_
        refine q_lmul (v := (6151 : Int64) * ((nI k).toInt64)) hx hb dX10_year_75 (rfl) ?_
        refine q_ladd (v := ((7919 : Int64) * ((nI z).toInt64)) + ((6151 : Int64) * ((nI k).toInt64))) hx hb dX10_year_76 (rfl) ?_
        refine lv_lconst (v := (1 : Int64)) hx hb dX10_year_77 (by decide) ?_
        refine q_ladd (v := q_x z k) hx hb dX10_year_78 (rfl) ?_
        refine lv_lstore (lv' := [(9, .long (q_x z k)), (0, .ref ma), (1, .int (nI z)), (2, .int (nI d)), (3, .int y), (4, .int ss), (5, .int (nI (q_yr T n z ow k))), (6, .int ((q_by (fun j => pop8 (q_yr T n z ow j)) k).2)), (7, .int (nI ((q_by (fun j => pop8 (q_yr T n z ow j)) k).1))), (8, .int (nI k))]) hx hb dX10_year_79 hl (by decide) rfl (fun ls hl => ?_)
        refine lv_aload_n hx hb dX10_year_81 rfl (lv_at hl 1 rfl) ?_
        refine lv_lload hx hb dX10_year_82 (lv_at hl 0 rfl) ?_
        refine lv_lload hx hb dX10_year_84 (lv_at hl 0 rfl) ?_
        refine q_lmul (v := (q_x z k) * (q_x z k)) hx hb dX10_year_86 (rfl) ?_
        refine lv_ldc2 (v := (65521 : Int64)) hx hb hown (hts (.constantLong RX10 176 (65521)) (by decide +kernel)) dX10_year_87 ?_
        refine q_lrem (v := q_m1 (q_x z k)) hx hb dX10_year_90 (by decide) (rfl) ?_
        refine lv_ldc2 (v := (100 : Int64)) hx hb hown (hts (.constantLong RX10 170 (100)) (by decide +kernel)) dX10_year_91 ?_
        refine q_lrem (v := q_m2 (q_m1 (q_x z k))) hx hb dX10_year_94 (by decide) (rfl) ?_
        refine lv_l2i (v := q_sn z k) hx hb dX10_year_95 (rfl) ?_
        refine q_put (ci := 10) (CC := RX10) (T := TX10) (N := 24) (w2 := [(ma, .inr (10, [.ref mt, .int (nI tn), .int (nI n), .ref mk, .ref mw, .ref mc, .ref mh, .ref mp, .int (nI ow), .int (q_sn z k), .int (nI uc), .ref mb, .int (nI kc), .ref me, .int (nI sc), .ref wp0, .ref wo0, .ref wb0, .int at0, .int rm0, .int ro0, .int rs0, .ref mr, .ref ml])), (mk, .inl (cI, 7, .inl mK)), (mw, .inl (cI, 7, .inl mW)), (mc, .inl (cI, 7, .inl mC)), (mh, .inl (cI, 7, .inl mH))]) hx hb hts hin10 tyX10 tyX10_ok nmX10 hown hK hP hD hS 0 rfl rfl 9 (by decide) (hts (.fieldLink RX10 32 "DearAsManyModel" "season" "I") (by decide +kernel)) rfl rfl rfl (Nat.le_of_ble_eq_true rfl) dX10_year_96 rfl (fun H locs hP hD hS => ?_)
        refine lv_aload_n hx hb dX10_year_99 rfl (lv_at hl 1 rfl) ?_
        refine lv_iload hx hb dX10_year_100 (lv_at hl 6 rfl) ?_
        refine lv_iconst (v := bI true) hx hb dX10_year_102 (by decide) ?_
        refine q_vi (As := [.int (nI (q_yr T n z ow k)), .int (bI true)]) (rest := []) ⟨hx, hb, hml, hown, hts⟩ (c_X10_round l (D := D) (cI := cI) (cB := cB) (cZ := cZ) (ma := ma) (mt := mt) (mk := mk) (mw := mw) (mc := mc) (mh := mh) (mp := mp) (mb := mb) (me := me) (wp0 := wp0) (wo0 := wo0) (wb0 := wb0) (mr := mr) (ml := ml) (tn := tn) (n := n) (ow := ow) (uc := uc) (kc := kc) (sc := sc) (ss := q_sn z k) (at0 := at0) (rm0 := rm0) (ro0 := ro0) (rs0 := rs0) (mK := mK) (mW := mW) (mC := mC) (mH := mH) (T := T) (S := q_yr T n z ow k) (t := true) (by first | assumption | exact Nat.zero_le _ | omega) (by first | assumption | exact Nat.zero_le _ | omega) (by first | assumption | exact Nat.zero_le _ | omega) (q_yr_lt how _)) (cwV 2 hts gX10_year_X10_round rfl rfl rfl (by decide +kernel) ⟨Nat.le_of_ble_eq_true rfl, Nat.le_of_ble_eq_true rfl⟩) hK hP [0, 1, 2, 3, 4] rfl 0 10 rfl rfl rfl rfl hl.1 rfl (Nat.le_of_ble_eq_true rfl) dX10_year_103 ⟨Nat.zero_le _, Nat.zero_le _⟩ (fun r_103 hr_103 => ?_)
        have hr_103 : nI (q_rd T n (q_sn z k) true (q_yr T n z ow k)) = r_103 := (show r_103 = nI (q_rd T n (q_sn z k) true (q_yr T n z ow k)) from hr_103).symm
        subst hr_103
        refine lv_istore (lv' := [(5, .int (nI (q_rd T n (q_sn z k) true (q_yr T n z ow k)))), (9, .long (q_x z k)), (0, .ref ma), (1, .int (nI z)), (2, .int (nI d)), (3, .int y), (4, .int ss), (6, .int ((q_by (fun j => pop8 (q_yr T n z ow j)) k).2)), (7, .int (nI ((q_by (fun j => pop8 (q_yr T n z ow j)) k).1))), (8, .int (nI k))]) hx hb dX10_year_106 hl (by decide) rfl (fun ls hl => ?_)
        refine lv_iload hx hb dX10_year_108 (lv_at hl 0 rfl) ?_
        refine q_si (As := [.int (nI (q_rd T n (q_sn z k) true (q_yr T n z ow k)))]) (rest := []) ⟨hx, hb, hml, hown, hts⟩ (c_X10_bits l (D := D) (cI := cI) (cB := cB) (cZ := cZ) (S := q_rd T n (q_sn z k) true (q_yr T n z ow k)) (by have := q_yr_lt (T := T) (z := z) how (k + 1); exact Nat.lt_of_lt_of_le this (by omega))) (va_cwS 1 hts gX10_year_X10_bits rfl rfl rfl (by decide +kernel) ⟨Nat.le_of_ble_eq_true rfl, Nat.le_of_ble_eq_true rfl⟩) hK hP [] rfl rfl hl.1 rfl (Nat.le_of_ble_eq_true rfl) dX10_year_110 ⟨Nat.zero_le _, Nat.zero_le _⟩ (fun r_110 hr_110 => ?_)
        have hr_110 : nI (pop8 (q_rd T n (q_sn z k) true (q_yr T n z ow k))) = r_110 := (show r_110 = nI (pop8 (q_rd T n (q_sn z k) true (q_yr T n z ow k))) from hr_110).symm
        subst hr_110
        refine lv_iload hx hb dX10_year_113 (lv_at hl 7 rfl) ?_
        refine lv_icmp_le (x := nI (pop8 (q_rd T n (q_sn z k) true (q_yr T n z ow k)))) (y := (q_by (fun j => pop8 (q_yr T n z ow j)) k).2) (tgt := 123) hx hb dX10_year_115 (by decide) (fun c_115 => ?_) (fun c_115 => ?_)
        · refine lv_iload hx hb dX10_year_123 (lv_at hl 8 rfl) ?_
          refine lv_istore (lv' := [(7, .int (nI ((q_by (fun j => pop8 (q_yr T n z ow j)) k).1))), (5, .int (nI (q_rd T n (q_sn z k) true (q_yr T n z ow k)))), (9, .long (q_x z k)), (0, .ref ma), (1, .int (nI z)), (2, .int (nI d)), (3, .int y), (4, .int ss), (6, .int ((q_by (fun j => pop8 (q_yr T n z ow j)) k).2)), (8, .int (nI k))]) hx hb dX10_year_125 hl (by decide) rfl (fun ls hl => ?_)
          refine lv_iload hx hb dX10_year_127 (lv_at hl 1 rfl) ?_
          refine q_si (As := [.int (nI (q_rd T n (q_sn z k) true (q_yr T n z ow k)))]) (rest := []) ⟨hx, hb, hml, hown, hts⟩ (c_X10_bits l (D := D) (cI := cI) (cB := cB) (cZ := cZ) (S := q_rd T n (q_sn z k) true (q_yr T n z ow k)) (by have := q_yr_lt (T := T) (z := z) how (k + 1); exact Nat.lt_of_lt_of_le this (by omega))) (va_cwS 1 hts gX10_year_X10_bits rfl rfl rfl (by decide +kernel) ⟨Nat.le_of_ble_eq_true rfl, Nat.le_of_ble_eq_true rfl⟩) hK hP [] rfl rfl hl.1 rfl (Nat.le_of_ble_eq_true rfl) dX10_year_129 ⟨Nat.zero_le _, Nat.zero_le _⟩ (fun r_129 hr_129 => ?_)
          have hr_129 : nI (pop8 (q_rd T n (q_sn z k) true (q_yr T n z ow k))) = r_129 := (show r_129 = nI (pop8 (q_rd T n (q_sn z k) true (q_yr T n z ow k))) from hr_129).symm
          subst hr_129
          refine lv_iload hx hb dX10_year_132 (lv_at hl 8 rfl) ?_
          refine lv_icmp_le (x := nI (pop8 (q_rd T n (q_sn z k) true (q_yr T n z ow k)))) (y := (q_by (fun j => pop8 (q_yr T n z ow j)) k).2) (tgt := 145) hx hb dX10_year_134 (by decide) (fun c_134 => ?_) (fun c_134 => ?_)
          · refine lv_iload hx hb dX10_year_145 (lv_at hl 8 rfl) ?_
            refine lv_istore (lv' := [(6, .int ((q_by (fun j => pop8 (q_yr T n z ow j)) k).2)), (7, .int (nI ((q_by (fun j => pop8 (q_yr T n z ow j)) k).1))), (5, .int (nI (q_rd T n (q_sn z k) true (q_yr T n z ow k)))), (9, .long (q_x z k)), (0, .ref ma), (1, .int (nI z)), (2, .int (nI d)), (3, .int y), (4, .int ss), (8, .int (nI k))]) hx hb dX10_year_147 hl (by decide) rfl (fun ls hl => ?_)
            refine lv_iinc (v := nI (k + 1)) (lv' := [(8, .int (nI (k + 1))), (6, .int ((q_by (fun j => pop8 (q_yr T n z ow j)) k).2)), (7, .int (nI ((q_by (fun j => pop8 (q_yr T n z ow j)) k).1))), (5, .int (nI (q_rd T n (q_sn z k) true (q_yr T n z ow k)))), (9, .long (q_x z k)), (0, .ref ma), (1, .int (nI z)), (2, .int (nI d)), (3, .int y), (4, .int ss)]) hx hb dX10_year_149 hl (k := 9) rfl (nI_add _ 1) (by decide) rfl (fun ls hl => ?_)
            refine lv_goto (tgt := 57) hx hb dX10_year_152 (by decide) ?_
            have hl : lv_has ls 11 [(8, .int (nI (k + 1))), (6, .int ((q_by (fun j => pop8 (q_yr T n z ow j)) k).2)), (7, .int (nI ((q_by (fun j => pop8 (q_yr T n z ow j)) (k + 1)).1))), (5, .int (nI (q_rd T n (q_sn z k) true (q_yr T n z ow k)))), (9, .long (q_x z k)), (0, .ref ma), (1, .int (nI z)), (2, .int (nI d)), (3, .int y), (4, .int ss)] := by rw [← show nI ((q_by (fun j => pop8 (q_yr T n z ow j)) k).1) = nI ((q_by (fun j => pop8 (q_yr T n z ow j)) (k + 1)).1) from by rw [q_byF (g := (fun j => pop8 (q_yr T n z ow j))) (d := k) (Int32.not_lt.mpr c_115)]]; exact hl
            have hl : lv_has ls 11 [(8, .int (nI (k + 1))), (6, .int ((q_by (fun j => pop8 (q_yr T n z ow j)) (k + 1)).2)), (7, .int (nI ((q_by (fun j => pop8 (q_yr T n z ow j)) (k + 1)).1))), (5, .int (nI (q_rd T n (q_sn z k) true (q_yr T n z ow k)))), (9, .long (q_x z k)), (0, .ref ma), (1, .int (nI z)), (2, .int (nI d)), (3, .int y), (4, .int ss)] := by rw [← show (q_by (fun j => pop8 (q_yr T n z ow j)) k).2 = (q_by (fun j => pop8 (q_yr T n z ow j)) (k + 1)).2 from by rw [q_byF (g := (fun j => pop8 (q_yr T n z ow j))) (d := k) (Int32.not_lt.mpr c_115)]]; exact hl
            exact ih57 z d (k + 1) (q_sn z k) (hwz) (hd) (hy) (by omega) (by omega) _ _ hP hD hS ls (lv_sub hl [5, 6, 7, 8, 9, 3, 1, 2, 0] rfl)
          · exact absurd c_134 ((fun z => z c_115))
        · refine lv_iload hx hb dX10_year_118 (lv_at hl 9 rfl) ?_
          refine lv_goto (tgt := 125) hx hb dX10_year_120 (by decide) ?_
          refine lv_istore (lv' := [(7, .int (nI k)), (5, .int (nI (q_rd T n (q_sn z k) true (q_yr T n z ow k)))), (9, .long (q_x z k)), (0, .ref ma), (1, .int (nI z)), (2, .int (nI d)), (3, .int y), (4, .int ss), (6, .int ((q_by (fun j => pop8 (q_yr T n z ow j)) k).2)), (8, .int (nI k))]) hx hb dX10_year_125 hl (by decide) rfl (fun ls hl => ?_)
          refine lv_iload hx hb dX10_year_127 (lv_at hl 1 rfl) ?_
          refine q_si (As := [.int (nI (q_rd T n (q_sn z k) true (q_yr T n z ow k)))]) (rest := []) ⟨hx, hb, hml, hown, hts⟩ (c_X10_bits l (D := D) (cI := cI) (cB := cB) (cZ := cZ) (S := q_rd T n (q_sn z k) true (q_yr T n z ow k)) (by have := q_yr_lt (T := T) (z := z) how (k + 1); exact Nat.lt_of_lt_of_le this (by omega))) (va_cwS 1 hts gX10_year_X10_bits rfl rfl rfl (by decide +kernel) ⟨Nat.le_of_ble_eq_true rfl, Nat.le_of_ble_eq_true rfl⟩) hK hP [] rfl rfl hl.1 rfl (Nat.le_of_ble_eq_true rfl) dX10_year_129 ⟨Nat.zero_le _, Nat.zero_le _⟩ (fun r_129 hr_129 => ?_)
          have hr_129 : nI (pop8 (q_rd T n (q_sn z k) true (q_yr T n z ow k))) = r_129 := (show r_129 = nI (pop8 (q_rd T n (q_sn z k) true (q_yr T n z ow k))) from hr_129).symm
          subst hr_129
          refine lv_iload hx hb dX10_year_132 (lv_at hl 8 rfl) ?_
          refine lv_icmp_le (x := nI (pop8 (q_rd T n (q_sn z k) true (q_yr T n z ow k)))) (y := (q_by (fun j => pop8 (q_yr T n z ow j)) k).2) (tgt := 145) hx hb dX10_year_134 (by decide) (fun c_134 => ?_) (fun c_134 => ?_)
          · exact absurd c_134 (c_115)
          · refine lv_iload hx hb dX10_year_137 (lv_at hl 1 rfl) ?_
            refine q_si (As := [.int (nI (q_rd T n (q_sn z k) true (q_yr T n z ow k)))]) (rest := []) ⟨hx, hb, hml, hown, hts⟩ (c_X10_bits l (D := D) (cI := cI) (cB := cB) (cZ := cZ) (S := q_rd T n (q_sn z k) true (q_yr T n z ow k)) (by have := q_yr_lt (T := T) (z := z) how (k + 1); exact Nat.lt_of_lt_of_le this (by omega))) (va_cwS 1 hts gX10_year_X10_bits rfl rfl rfl (by decide +kernel) ⟨Nat.le_of_ble_eq_true rfl, Nat.le_of_ble_eq_true rfl⟩) hK hP [] rfl rfl hl.1 rfl (Nat.le_of_ble_eq_true rfl) dX10_year_139 ⟨Nat.zero_le _, Nat.zero_le _⟩ (fun r_139 hr_139 => ?_)
            have hr_139 : nI (pop8 (q_rd T n (q_sn z k) true (q_yr T n z ow k))) = r_139 := (show r_139 = nI (pop8 (q_rd T n (q_sn z k) true (q_yr T n z ow k))) from hr_139).symm
            subst hr_139
            refine lv_goto (tgt := 147) hx hb dX10_year_142 (by decide) ?_
            refine lv_istore (lv' := [(6, .int (nI (pop8 (q_rd T n (q_sn z k) true (q_yr T n z ow k))))), (7, .int (nI k)), (5, .int (nI (q_rd T n (q_sn z k) true (q_yr T n z ow k)))), (9, .long (q_x z k)), (0, .ref ma), (1, .int (nI z)), (2, .int (nI d)), (3, .int y), (4, .int ss), (8, .int (nI k))]) hx hb dX10_year_147 hl (by decide) rfl (fun ls hl => ?_)
            refine lv_iinc (v := nI (k + 1)) (lv' := [(8, .int (nI (k + 1))), (6, .int (nI (pop8 (q_rd T n (q_sn z k) true (q_yr T n z ow k))))), (7, .int (nI k)), (5, .int (nI (q_rd T n (q_sn z k) true (q_yr T n z ow k)))), (9, .long (q_x z k)), (0, .ref ma), (1, .int (nI z)), (2, .int (nI d)), (3, .int y), (4, .int ss)]) hx hb dX10_year_149 hl (k := 9) rfl (nI_add _ 1) (by decide) rfl (fun ls hl => ?_)
            refine lv_goto (tgt := 57) hx hb dX10_year_152 (by decide) ?_
            have hl : lv_has ls 11 [(8, .int (nI (k + 1))), (6, .int (nI (pop8 (q_rd T n (q_sn z k) true (q_yr T n z ow k))))), (7, .int (nI ((q_by (fun j => pop8 (q_yr T n z ow j)) (k + 1)).1))), (5, .int (nI (q_rd T n (q_sn z k) true (q_yr T n z ow k)))), (9, .long (q_x z k)), (0, .ref ma), (1, .int (nI z)), (2, .int (nI d)), (3, .int y), (4, .int ss)] := by rw [← show nI k = nI ((q_by (fun j => pop8 (q_yr T n z ow j)) (k + 1)).1) from by rw [q_byT (g := (fun j => pop8 (q_yr T n z ow j))) (d := k) (Int32.not_le.mp c_115)]]; exact hl
            have hl : lv_has ls 11 [(8, .int (nI (k + 1))), (6, .int ((q_by (fun j => pop8 (q_yr T n z ow j)) (k + 1)).2)), (7, .int (nI ((q_by (fun j => pop8 (q_yr T n z ow j)) (k + 1)).1))), (5, .int (nI (q_rd T n (q_sn z k) true (q_yr T n z ow k)))), (9, .long (q_x z k)), (0, .ref ma), (1, .int (nI z)), (2, .int (nI d)), (3, .int y), (4, .int ss)] := by rw [← show nI (pop8 (q_rd T n (q_sn z k) true (q_yr T n z ow k))) = (q_by (fun j => pop8 (q_yr T n z ow j)) (k + 1)).2 from by rw [q_byT (g := (fun j => pop8 (q_yr T n z ow j))) (d := k) (Int32.not_le.mp c_115)]; rfl]; exact hl
            exact ih57 z d (k + 1) (q_sn z k) (hwz) (hd) (hy) (by omega) (by omega) _ _ hP hD hS ls (lv_sub hl [5, 6, 7, 8, 9, 3, 1, 2, 0] rfl)
  rcases hw : q_ix (10000) w with _ | z
  · refine lv_iload_n hx hb dX10_year_0 rfl (lv_at hl 1 rfl) ?_
    refine lv_i2l (v := w.toInt64) hx hb dX10_year_1 (rfl) ?_
    refine lv_lconst (v := (0 : Int64)) hx hb dX10_year_2 (by decide) ?_
    refine lv_ldc2 (v := (9999 : Int64)) hx hb hown (hts (.constantLong RX10 168 (9999)) (by decide +kernel)) dX10_year_3 ?_
    refine q_si (As := [.long w.toInt64, .long (0 : Int64), .long (9999 : Int64)]) (rest := []) ⟨hx, hb, hml, hown, hts⟩ (c_X10_in l (D := D) (cI := cI) (cB := cB) (cZ := cZ) (a1 := w.toInt64) (b1 := (0 : Int64)) (c1 := (9999 : Int64)) ) (va_cwS 3 hts gX10_year_X10_in rfl rfl rfl (by decide +kernel) ⟨Nat.le_of_ble_eq_true rfl, Nat.le_of_ble_eq_true rfl⟩) hK hP [] rfl rfl hl.1 rfl (Nat.le_of_ble_eq_true rfl) dX10_year_6 ⟨Nat.zero_le _, Nat.zero_le _⟩ (fun r_6 hr_6 => ?_)
    have hr_6 : bI false = r_6 := (Eq.trans (show r_6 = bI (q_inb w.toInt64 (0 : Int64) (9999 : Int64)) from hr_6) (q_in0 (lo := 0) (hi := 9999) (N := 10000) rfl (rfl) (by omega) hw (by omega))).symm
    subst hr_6
    refine q_beq (tgt := 34) hx hb dX10_year_9 (by decide) (fun c_9 => ?_) (fun c_9 => ?_)
    · refine lv_iconst (v := (-1 : Int32)) hx hb dX10_year_34 (by decide) ?_
      exact q_mret (S := Unit) (v := (-1 : Int32)) (w1 := fun _ => [(ma, .inr (10, [.ref mt, .int (nI tn), .int (nI n), .ref mk, .ref mw, .ref mc, .ref mh, .ref mp, .int (nI ow), .int ss, .int (nI uc), .ref mb, .int (nI kc), .ref me, .int (nI sc), .ref wp0, .ref wo0, .ref wb0, .int at0, .int rm0, .int ro0, .int rs0, .ref mr, .ref ml])), (mk, .inl (cI, 7, .inl mK)), (mw, .inl (cI, 7, .inl mW)), (mc, .inl (cI, 7, .inl mC)), (mh, .inl (cI, 7, .inl mH))]) () hx hb hr hlocks (rfl) hP hS dX10_year_35 (by simp only [A_year, hw])
    · exact absurd c_9 (by decide)
  · have hwe := q_ixS hw
    have hl : lv_has ls 11 [(0, .ref ma), (1, .int (nI z)), (2, .int v), (3, .int y)] := by rw [← show w = nI z from hwe.1]; exact hl
    refine lv_iload_n hx hb dX10_year_0 rfl (lv_at hl 1 rfl) ?_
    refine lv_i2l (v := (nI z).toInt64) hx hb dX10_year_1 (rfl) ?_
    refine lv_lconst (v := (0 : Int64)) hx hb dX10_year_2 (by decide) ?_
    refine lv_ldc2 (v := (9999 : Int64)) hx hb hown (hts (.constantLong RX10 168 (9999)) (by decide +kernel)) dX10_year_3 ?_
    refine q_si (As := [.long ((nI z).toInt64), .long (0 : Int64), .long (9999 : Int64)]) (rest := []) ⟨hx, hb, hml, hown, hts⟩ (c_X10_in l (D := D) (cI := cI) (cB := cB) (cZ := cZ) (a1 := (nI z).toInt64) (b1 := (0 : Int64)) (c1 := (9999 : Int64)) ) (va_cwS 3 hts gX10_year_X10_in rfl rfl rfl (by decide +kernel) ⟨Nat.le_of_ble_eq_true rfl, Nat.le_of_ble_eq_true rfl⟩) hK hP [] rfl rfl hl.1 rfl (Nat.le_of_ble_eq_true rfl) dX10_year_6 ⟨Nat.zero_le _, Nat.zero_le _⟩ (fun r_6 hr_6 => ?_)
    have hr_6 : bI true = r_6 := (Eq.trans (show r_6 = bI (q_inb ((nI z).toInt64) (0 : Int64) (9999 : Int64)) from hr_6) (q_in1 (lo := 0) (hi := 9999) rfl (rfl) (by omega) (by omega) (by omega))).symm
    subst hr_6
    refine q_beq (tgt := 34) hx hb dX10_year_9 (by decide) (fun c_9 => ?_) (fun c_9 => ?_)
    · exact absurd c_9 (by decide)
    · rcases hv : q_ix (101) v with _ | d
      · refine lv_iload_n hx hb dX10_year_12 rfl (lv_at hl 2 rfl) ?_
        refine lv_i2l (v := v.toInt64) hx hb dX10_year_13 (rfl) ?_
        refine lv_lconst (v := (1 : Int64)) hx hb dX10_year_14 (by decide) ?_
        refine lv_ldc2 (v := (100 : Int64)) hx hb hown (hts (.constantLong RX10 170 (100)) (by decide +kernel)) dX10_year_15 ?_
        refine q_si (As := [.long v.toInt64, .long (1 : Int64), .long (100 : Int64)]) (rest := []) ⟨hx, hb, hml, hown, hts⟩ (c_X10_in l (D := D) (cI := cI) (cB := cB) (cZ := cZ) (a1 := v.toInt64) (b1 := (1 : Int64)) (c1 := (100 : Int64)) ) (va_cwS 3 hts gX10_year_X10_in rfl rfl rfl (by decide +kernel) ⟨Nat.le_of_ble_eq_true rfl, Nat.le_of_ble_eq_true rfl⟩) hK hP [] rfl rfl hl.1 rfl (Nat.le_of_ble_eq_true rfl) dX10_year_18 ⟨Nat.zero_le _, Nat.zero_le _⟩ (fun r_18 hr_18 => ?_)
        have hr_18 : bI false = r_18 := (Eq.trans (show r_18 = bI (q_inb v.toInt64 (1 : Int64) (100 : Int64)) from hr_18) (q_in0 (lo := 1) (hi := 100) (N := 101) rfl rfl (by omega) hv (by omega))).symm
        subst hr_18
        refine q_beq (tgt := 34) hx hb dX10_year_21 (by decide) (fun c_21 => ?_) (fun c_21 => ?_)
        · refine lv_iconst (v := (-1 : Int32)) hx hb dX10_year_34 (by decide) ?_
          exact q_mret (S := Unit) (v := (-1 : Int32)) (w1 := fun _ => [(ma, .inr (10, [.ref mt, .int (nI tn), .int (nI n), .ref mk, .ref mw, .ref mc, .ref mh, .ref mp, .int (nI ow), .int ss, .int (nI uc), .ref mb, .int (nI kc), .ref me, .int (nI sc), .ref wp0, .ref wo0, .ref wb0, .int at0, .int rm0, .int ro0, .int rs0, .ref mr, .ref ml])), (mk, .inl (cI, 7, .inl mK)), (mw, .inl (cI, 7, .inl mW)), (mc, .inl (cI, 7, .inl mC)), (mh, .inl (cI, 7, .inl mH))]) () hx hb hr hlocks (rfl) hP hS dX10_year_35 (by simp only [A_year, hw, hv])
        · exact absurd c_21 (by decide)
      · have hve := q_ixS hv
        have hl : lv_has ls 11 [(0, .ref ma), (1, .int (nI z)), (2, .int (nI d)), (3, .int y)] := by rw [← show v = nI d from hve.1]; exact hl
        refine lv_iload_n hx hb dX10_year_12 rfl (lv_at hl 2 rfl) ?_
        refine lv_i2l (v := (nI d).toInt64) hx hb dX10_year_13 (rfl) ?_
        refine lv_lconst (v := (1 : Int64)) hx hb dX10_year_14 (by decide) ?_
        refine lv_ldc2 (v := (100 : Int64)) hx hb hown (hts (.constantLong RX10 170 (100)) (by decide +kernel)) dX10_year_15 ?_
        refine q_si (As := [.long ((nI d).toInt64), .long (1 : Int64), .long (100 : Int64)]) (rest := []) ⟨hx, hb, hml, hown, hts⟩ (c_X10_in l (D := D) (cI := cI) (cB := cB) (cZ := cZ) (a1 := (nI d).toInt64) (b1 := (1 : Int64)) (c1 := (100 : Int64)) ) (va_cwS 3 hts gX10_year_X10_in rfl rfl rfl (by decide +kernel) ⟨Nat.le_of_ble_eq_true rfl, Nat.le_of_ble_eq_true rfl⟩) hK hP [] rfl rfl hl.1 rfl (Nat.le_of_ble_eq_true rfl) dX10_year_18 ⟨Nat.zero_le _, Nat.zero_le _⟩ (fun r_18 hr_18 => ?_)
        have hr_18 : bI (decide (1 ≤ d)) = r_18 := (Eq.trans (show r_18 = bI (q_inb ((nI d).toInt64) (1 : Int64) (100 : Int64)) from hr_18) (q_inD (by omega))).symm
        subst hr_18
        refine q_beq (tgt := 34) hx hb dX10_year_21 (by decide) (fun c_21 => ?_) (fun c_21 => ?_)
        · have c_21 := of_decide_eq_false c_21
          refine lv_iconst (v := (-1 : Int32)) hx hb dX10_year_34 (by decide) ?_
          exact q_mret (S := Unit) (v := (-1 : Int32)) (w1 := fun _ => [(ma, .inr (10, [.ref mt, .int (nI tn), .int (nI n), .ref mk, .ref mw, .ref mc, .ref mh, .ref mp, .int (nI ow), .int ss, .int (nI uc), .ref mb, .int (nI kc), .ref me, .int (nI sc), .ref wp0, .ref wo0, .ref wb0, .int at0, .int rm0, .int ro0, .int rs0, .ref mr, .ref ml])), (mk, .inl (cI, 7, .inl mK)), (mw, .inl (cI, 7, .inl mW)), (mc, .inl (cI, 7, .inl mC)), (mh, .inl (cI, 7, .inl mH))]) () hx hb hr hlocks (rfl) hP hS dX10_year_35 (by simp only [A_year, hw, hv]; rw [if_pos (by omega)])
        · have c_21 := of_decide_eq_true c_21
          refine lv_iload_n hx hb dX10_year_24 rfl (lv_at hl 3 rfl) ?_
          refine lv_i2l (v := y.toInt64) hx hb dX10_year_25 (rfl) ?_
          refine lv_lconst (v := (0 : Int64)) hx hb dX10_year_26 (by decide) ?_
          refine lv_lconst (v := (1 : Int64)) hx hb dX10_year_27 (by decide) ?_
          refine q_si (As := [.long y.toInt64, .long (0 : Int64), .long (1 : Int64)]) (rest := []) ⟨hx, hb, hml, hown, hts⟩ (c_X10_in l (D := D) (cI := cI) (cB := cB) (cZ := cZ) (a1 := y.toInt64) (b1 := (0 : Int64)) (c1 := (1 : Int64)) ) (va_cwS 3 hts gX10_year_X10_in rfl rfl rfl (by decide +kernel) ⟨Nat.le_of_ble_eq_true rfl, Nat.le_of_ble_eq_true rfl⟩) hK hP [] rfl rfl hl.1 rfl (Nat.le_of_ble_eq_true rfl) dX10_year_28 ⟨Nat.zero_le _, Nat.zero_le _⟩ (fun r_28 hr_28 => ?_)
          have hr_28 : bI (q_eit y) = r_28 := (Eq.trans (show r_28 = bI (q_inb y.toInt64 (0 : Int64) (1 : Int64)) from hr_28) (q_inEit _)).symm
          subst hr_28
          refine q_bne (tgt := 36) hx hb dX10_year_31 (by decide) (fun c_31 => ?_) (fun c_31 => ?_)
          · refine lv_aload_n hx hb dX10_year_36 rfl (lv_at hl 0 rfl) ?_
            refine q_get (ci := 10) (CC := RX10) (T := TX10) (N := 24) (v := .int ss) hx hb hts hin10 hown hK hP 0 rfl rfl 9 (by decide) (hts (.fieldLink RX10 32 "DearAsManyModel" "season" "I") (by decide +kernel)) rfl rfl dX10_year_37 ?_
            refine lv_istore (lv' := [(4, .int ss), (0, .ref ma), (1, .int (nI z)), (2, .int (nI d)), (3, .int y)]) hx hb dX10_year_40 hl (by decide) rfl (fun ls hl => ?_)
            refine lv_aload_n hx hb dX10_year_42 rfl (lv_at hl 1 rfl) ?_
            refine q_get (ci := 10) (CC := RX10) (T := TX10) (N := 24) (v := .int (nI ow)) hx hb hts hin10 hown hK hP 0 rfl rfl 8 (by decide) (hts (.fieldLink RX10 107 "DearAsManyModel" "owners" "I") (by decide +kernel)) rfl rfl dX10_year_43 ?_
            refine lv_istore (lv' := [(5, .int (nI ow)), (4, .int ss), (0, .ref ma), (1, .int (nI z)), (2, .int (nI d)), (3, .int y)]) hx hb dX10_year_46 hl (by decide) rfl (fun ls hl => ?_)
            refine lv_iconst (v := (-1 : Int32)) hx hb dX10_year_48 (by decide) ?_
            refine lv_istore (lv' := [(6, .int (-1 : Int32)), (5, .int (nI ow)), (4, .int ss), (0, .ref ma), (1, .int (nI z)), (2, .int (nI d)), (3, .int y)]) hx hb dX10_year_49 hl (by decide) rfl (fun ls hl => ?_)
            refine lv_iconst (v := nI 0) hx hb dX10_year_51 (by decide) ?_
            refine lv_istore (lv' := [(7, .int (nI 0)), (6, .int (-1 : Int32)), (5, .int (nI ow)), (4, .int ss), (0, .ref ma), (1, .int (nI z)), (2, .int (nI d)), (3, .int y)]) hx hb dX10_year_52 hl (by decide) rfl (fun ls hl => ?_)
            refine lv_iconst (v := nI 0) hx hb dX10_year_54 (by decide) ?_
            refine lv_istore (lv' := [(8, .int (nI 0)), (7, .int (nI 0)), (6, .int (-1 : Int32)), (5, .int (nI ow)), (4, .int ss), (0, .ref ma), (1, .int (nI z)), (2, .int (nI d)), (3, .int y)]) hx hb dX10_year_55 hl (by decide) rfl (fun ls hl => ?_)
            exact L57 _ z d 0 ss (⟨hw, hv⟩) (⟨by omega, by omega⟩) (c_31) (Nat.zero_le _) (Nat.lt_succ_self _) _ _ hP hD hS ls (lv_sub hl [5, 6, 7, 8, 4, 3, 2, 1, 0] rfl)
          · refine lv_iconst (v := (-1 : Int32)) hx hb dX10_year_34 (by decide) ?_
            exact q_mret (S := Unit) (v := (-1 : Int32)) (w1 := fun _ => [(ma, .inr (10, [.ref mt, .int (nI tn), .int (nI n), .ref mk, .ref mw, .ref mc, .ref mh, .ref mp, .int (nI ow), .int ss, .int (nI uc), .ref mb, .int (nI kc), .ref me, .int (nI sc), .ref wp0, .ref wo0, .ref wb0, .int at0, .int rm0, .int ro0, .int rs0, .ref mr, .ref ml])), (mk, .inl (cI, 7, .inl mK)), (mw, .inl (cI, 7, .inl mW)), (mc, .inl (cI, 7, .inl mC)), (mh, .inl (cI, 7, .inl mH))]) () hx hb hr hlocks (rfl) hP hS dX10_year_35 (by simp only [A_year, hw, hv]; by_cases hd0 : d = 0; (rw [if_pos hd0]); (rw [if_neg hd0, if_neg (q_eitN c_31).1, if_neg (q_eitN c_31).2]))

set_option maxHeartbeats 4000000 in
set_option maxRecDepth 100000 in
theorem c_X10_count (l : Launch) {D : va_G} {cI cB cZ : ClassId} {ma : Nat} {mt : Nat} {mk : Nat} {mw : Nat} {mc : Nat} {mh : Nat} {mp : Nat} {mb : Nat} {me : Nat} {wp0 : Nat} {wo0 : Nat} {wb0 : Nat} {mr : Nat} {ml : Nat} {tn : Nat} {n : Nat} {ow : Nat} {uc : Nat} {kc : Nat} {sc : Nat} {ss : Int32} {at0 : Int32} {rm0 : Int32} {ro0 : Int32} {rs0 : Int32} {w : Int32} : Met l yX10_count wsX10_count ({ frames := 0, cells := 0, slots := 0, locals := 0 } : Room) (va_Pc [.ref ma, .int w] (q_B D (q_tys cI cB cZ) [(ma, .inr (10, [.ref mt, .int (nI tn), .int (nI n), .ref mk, .ref mw, .ref mc, .ref mh, .ref mp, .int (nI ow), .int ss, .int (nI uc), .ref mb, .int (nI kc), .ref me, .int (nI sc), .ref wp0, .ref wo0, .ref wb0, .int at0, .int rm0, .int ro0, .int rs0, .ref mr, .ref ml]))])) (vp_Si (fun r => r = A_count n ow ss sc uc kc tn w)) 0 0 (fun _ => False) := by
  refine Met.ofW (cc := cX10_count) (maxL := 2) (ret := (some .int)) (by decide) rfl ?_
  intro p e s m args below meth c s₁ B hml hv
  obtain ⟨rfl, hP, hK⟩ := hv
  have hx := B.exec
  have hb := B.bytes
  have hr := B.returns
  have hts := atoms_spec (ws := wsX10_count) B.pre
  have hown : s.vm.findClass RX10 = some m.cls := findClass_of_methodNamed B.named
  have hlocks := B.notSynchronized
  have hin10 : ∀ w ∈ u_ws RX10 TX10 24, w ∈ wsX10_count := by decide +kernel
  have hP : va_P D vwCl [(ma, .inr (10, [.ref mt, .int (nI tn), .int (nI n), .ref mk, .ref mw, .ref mc, .ref mh, .ref mp, .int (nI ow), .int ss, .int (nI uc), .ref mb, .int (nI kc), .ref me, .int (nI sc), .ref wp0, .ref wo0, .ref wb0, .int at0, .int rm0, .int ro0, .int rs0, .ref mr, .ref ml]))] s.heap := hP
  have hl := lv_entry ([.ref ma, .int w]) (n := 2) (Nat.le_of_ble_eq_true rfl)
  rw [lg_entry_eq]
  generalize (lg_sl ([.ref ma, .int w]) ++ List.replicate (2 - (lg_sl ([.ref ma, .int w])).length) Slot.unset).toArray = ls at hl ⊢
  have hl : lv_has ls 2 [(0, .ref ma), (1, .int w)] := hl
  refine lv_iload_n hx hb dX10_count_0 rfl (lv_at hl 1 rfl) ?_
  refine q_tsw (x := w) (lo := 0) (hi := 6) (fun c_1 => ?_) (fun c_1a c_1b => ?_)
  · refine lv_tableOut (tgt := 79) hx hb dX10_count_1 c_1 (by decide) ?_
    refine lv_iconst (v := (-1 : Int32)) hx hb dX10_count_79 (by decide) ?_
    exact q_zret (v := (-1 : Int32)) hx hb hr hlocks (rfl) (show (-1 : Int32) = A_count n ow ss sc uc kc tn w from by rw [A_cnD c_1]) dX10_count_80
  · rcases (show w.toInt = 0 ∨ w.toInt = 1 ∨ w.toInt = 2 ∨ w.toInt = 3 ∨ w.toInt = 4 ∨ w.toInt = 5 ∨ w.toInt = 6 from by omega) with c_1 | c_1 | c_1 | c_1 | c_1 | c_1 | c_1
    · refine lv_tableIn (off := 43) (tgt := 44) hx hb dX10_count_1 (by rw [c_1]; decide) (by rw [c_1]; decide) (by rw [c_1]; rfl) (by decide) ?_
      refine lv_aload_n hx hb dX10_count_44 rfl (lv_at hl 0 rfl) ?_
      refine q_get (ci := 10) (CC := RX10) (T := TX10) (N := 24) (v := .int (nI n)) hx hb hts hin10 hown hK hP 0 rfl rfl 2 (by decide) (hts (.fieldLink RX10 13 "DearAsManyModel" "many" "I") (by decide +kernel)) rfl rfl dX10_count_45 ?_
      exact q_zret (v := nI n) hx hb hr hlocks (rfl) (show nI n = A_count n ow ss sc uc kc tn w from by rw [q_toI (k := 0) (by decide) c_1]; rfl) dX10_count_48
    · refine lv_tableIn (off := 48) (tgt := 49) hx hb dX10_count_1 (by rw [c_1]; decide) (by rw [c_1]; decide) (by rw [c_1]; rfl) (by decide) ?_
      refine lv_aload_n hx hb dX10_count_49 rfl (lv_at hl 0 rfl) ?_
      refine q_get (ci := 10) (CC := RX10) (T := TX10) (N := 24) (v := .int (nI ow)) hx hb hts hin10 hown hK hP 0 rfl rfl 8 (by decide) (hts (.fieldLink RX10 107 "DearAsManyModel" "owners" "I") (by decide +kernel)) rfl rfl dX10_count_50 ?_
      exact q_zret (v := nI ow) hx hb hr hlocks (rfl) (show nI ow = A_count n ow ss sc uc kc tn w from by rw [q_toI (k := 1) (by decide) c_1]; rfl) dX10_count_53
    · refine lv_tableIn (off := 53) (tgt := 54) hx hb dX10_count_1 (by rw [c_1]; decide) (by rw [c_1]; decide) (by rw [c_1]; rfl) (by decide) ?_
      refine lv_aload_n hx hb dX10_count_54 rfl (lv_at hl 0 rfl) ?_
      refine q_get (ci := 10) (CC := RX10) (T := TX10) (N := 24) (v := .int ss) hx hb hts hin10 hown hK hP 0 rfl rfl 9 (by decide) (hts (.fieldLink RX10 32 "DearAsManyModel" "season" "I") (by decide +kernel)) rfl rfl dX10_count_55 ?_
      exact q_zret (v := ss) hx hb hr hlocks (rfl) (show ss = A_count n ow ss sc uc kc tn w from by rw [q_toI (k := 2) (by decide) c_1]; rfl) dX10_count_58
    · refine lv_tableIn (off := 58) (tgt := 59) hx hb dX10_count_1 (by rw [c_1]; decide) (by rw [c_1]; decide) (by rw [c_1]; rfl) (by decide) ?_
      refine lv_aload_n hx hb dX10_count_59 rfl (lv_at hl 0 rfl) ?_
      refine q_get (ci := 10) (CC := RX10) (T := TX10) (N := 24) (v := .int (nI sc)) hx hb hts hin10 hown hK hP 0 rfl rfl 14 (by decide) (hts (.fieldLink RX10 110 "DearAsManyModel" "sights" "I") (by decide +kernel)) rfl rfl dX10_count_60 ?_
      exact q_zret (v := nI sc) hx hb hr hlocks (rfl) (show nI sc = A_count n ow ss sc uc kc tn w from by rw [q_toI (k := 3) (by decide) c_1]; rfl) dX10_count_63
    · refine lv_tableIn (off := 63) (tgt := 64) hx hb dX10_count_1 (by rw [c_1]; decide) (by rw [c_1]; decide) (by rw [c_1]; rfl) (by decide) ?_
      refine lv_aload_n hx hb dX10_count_64 rfl (lv_at hl 0 rfl) ?_
      refine q_get (ci := 10) (CC := RX10) (T := TX10) (N := 24) (v := .int (nI uc)) hx hb hts hin10 hown hK hP 0 rfl rfl 10 (by decide) (hts (.fieldLink RX10 113 "DearAsManyModel" "undos" "I") (by decide +kernel)) rfl rfl dX10_count_65 ?_
      exact q_zret (v := nI uc) hx hb hr hlocks (rfl) (show nI uc = A_count n ow ss sc uc kc tn w from by rw [q_toI (k := 4) (by decide) c_1]; rfl) dX10_count_68
    · refine lv_tableIn (off := 68) (tgt := 69) hx hb dX10_count_1 (by rw [c_1]; decide) (by rw [c_1]; decide) (by rw [c_1]; rfl) (by decide) ?_
      refine lv_aload_n hx hb dX10_count_69 rfl (lv_at hl 0 rfl) ?_
      refine q_get (ci := 10) (CC := RX10) (T := TX10) (N := 24) (v := .int (nI kc)) hx hb hts hin10 hown hK hP 0 rfl rfl 12 (by decide) (hts (.fieldLink RX10 116 "DearAsManyModel" "kepts" "I") (by decide +kernel)) rfl rfl dX10_count_70 ?_
      exact q_zret (v := nI kc) hx hb hr hlocks (rfl) (show nI kc = A_count n ow ss sc uc kc tn w from by rw [q_toI (k := 5) (by decide) c_1]; rfl) dX10_count_73
    · refine lv_tableIn (off := 73) (tgt := 74) hx hb dX10_count_1 (by rw [c_1]; decide) (by rw [c_1]; decide) (by rw [c_1]; rfl) (by decide) ?_
      refine lv_aload_n hx hb dX10_count_74 rfl (lv_at hl 0 rfl) ?_
      refine q_get (ci := 10) (CC := RX10) (T := TX10) (N := 24) (v := .int (nI tn)) hx hb hts hin10 hown hK hP 0 rfl rfl 1 (by decide) (hts (.fieldLink RX10 63 "DearAsManyModel" "size" "I") (by decide +kernel)) rfl rfl dX10_count_75 ?_
      exact q_zret (v := nI tn) hx hb hr hlocks (rfl) (show nI tn = A_count n ow ss sc uc kc tn w from by rw [q_toI (k := 6) (by decide) c_1]; rfl) dX10_count_78
