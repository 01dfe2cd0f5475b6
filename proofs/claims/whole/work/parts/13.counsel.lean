set_option maxHeartbeats 4000000 in
set_option maxRecDepth 100000 in
/-- PLACE: the gain, with k ahead of him -/
theorem c_X0_gainBehind (l : Launch) {D : va_G} {cI cB cZ : ClassId} {hx0 : Nat} {hm : Nat} {hp : Nat} {hh : Nat} {ht : Nat} {n : Nat} {fo : Int32} {ss : Int32} {tr : Nat → Int32} {hom : Nat → Int32} {T : Nat → Nat → Nat} {i : Nat} {k : Nat} {ow : Nat} (hT : q_Tr T n tr) (hB : q_Bd T n) (hH : q_Hm T n hom) (hi : i < n) (how : ow < 2 ^ n) (hk : k ≤ 7) : Met l yX0_gainBehind wsX0_gainBehind ({ frames := 3, cells := 0, slots := 0, locals := 71 } : Room) (va_Pc [.ref hx0, .int (nI i), .int (nI k), .int (nI ow)] (q_B D (q_tys cI cB cZ) [(hx0, .inr (0, [.ref hm])), (hm, .inr (3, [.ref hp, .ref hh])), (hp, .inr (4, [.ref ht, .int (nI n), .int fo, .int ss])), (ht, .inl (cI, 35, .inl tr)), (hh, .inl (cI, 128, .inl hom))])) (vp_Si (fun r => r = q_gain T n ss i ow k)) 0 0 (fun _ => False) := by
  refine Met.ofW (cc := cX0_gainBehind) (maxL := 8) (ret := (some .int)) (by decide) rfl ?_
  intro p e s m args below meth c s₁ B hml hv
  obtain ⟨rfl, hP, hK⟩ := hv
  have hx := B.exec
  have hb := B.bytes
  have hr := B.returns
  have hts := atoms_spec (ws := wsX0_gainBehind) B.pre
  have hown : s.vm.findClass RX0 = some m.cls := findClass_of_methodNamed B.named
  have hlocks := B.notSynchronized
  have hin0 : ∀ w ∈ u_ws RX0 TX0 1, w ∈ wsX0_gainBehind := by decide +kernel
  have hin3 : ∀ w ∈ u_ws RX3 TX3 2, w ∈ wsX0_gainBehind := by decide +kernel
  have hin4 : ∀ w ∈ u_ws RX4 TX4 4, w ∈ wsX0_gainBehind := by decide +kernel
  have hP : va_P D vwCl [(hx0, .inr (0, [.ref hm])), (hm, .inr (3, [.ref hp, .ref hh])), (hp, .inr (4, [.ref ht, .int (nI n), .int fo, .int ss])), (ht, .inl (cI, 35, .inl tr)), (hh, .inl (cI, 128, .inl hom))] s.heap := hP
  have hl := lv_entry ([.ref hx0, .int (nI i), .int (nI k), .int (nI ow)]) (n := 8) (Nat.le_of_ble_eq_true rfl)
  rw [lg_entry_eq]
  generalize (lg_sl ([.ref hx0, .int (nI i), .int (nI k), .int (nI ow)]) ++ List.replicate (8 - (lg_sl ([.ref hx0, .int (nI i), .int (nI k), .int (nI ow)])).length) Slot.unset).toArray = ls at hl ⊢
  have hl : lv_has ls 8 [(0, .ref hx0), (1, .int (nI i)), (2, .int (nI k)), (3, .int (nI ow))] := hl
  have hn7 := hB.1
  have hp2 : 2 ^ n ≤ 128 := q_p2 hB.1
  have L12 : ∀ (fuel : Nat) (j : Nat) (hj : j ≤ n + 1) (hf : n + 1 - j < fuel) (ls : Array Slot) (hl : lv_has ls 8 [(0, .ref hx0), (1, .int (nI i)), (2, .int (nI k)), (3, .int (nI ow)), (4, .int (nI ((q_gb T n ss i k ow j).1))), (5, .int (nI ((q_gb T n ss i k ow j).2.1))), (6, .int (nI ((q_gb T n ss i k ow j).2.2))), (7, .int (nI j))]), W p l e (headSpec wsX0_gainBehind ({ frames := 3, cells := 0, slots := 0, locals := 71 } : Room)).room s m ([.ref hx0, .int (nI i), .int (nI k), .int (nI ow)] : List Value).toArray below meth c s.heap [] 0 0 (MQ below (vp_Si (fun r => r = q_gain T n ss i ow k)) ([.ref hx0, .int (nI i), .int (nI k), .int (nI ow)] : List Value).toArray s 0 0 (fun _ => False)) (F0 m 12 ls []) := by
    intro fuel
    induction fuel with
    | zero =>
      intro j hj hf ls hl
      exact absurd hf (Nat.not_lt_zero _)
    | succ fuel ih12 =>
      intro j hj hf ls hl
      have L63 : ∀ (hjn : j < n + 1) (ls : Array Slot) (hl : lv_has ls 8 [(0, .ref hx0), (1, .int (nI i)), (2, .int (nI k)), (3, .int (nI ow)), (4, .int (nI ((q_g1 T n i k (q_gb T n ss i k ow j)).1))), (5, .int (nI ((q_g1 T n i k (q_gb T n ss i k ow j)).2.1))), (6, .int (nI ((q_g1 T n i k (q_gb T n ss i k ow j)).2.2))), (7, .int (nI j))]), W p l e (headSpec wsX0_gainBehind ({ frames := 3, cells := 0, slots := 0, locals := 71 } : Room)).room s m ([.ref hx0, .int (nI i), .int (nI k), .int (nI ow)] : List Value).toArray below meth c s.heap [] 0 0 (MQ below (vp_Si (fun r => r = q_gain T n ss i ow k)) ([.ref hx0, .int (nI i), .int (nI k), .int (nI ow)] : List Value).toArray s 0 0 (fun _ => False)) (F0 m 63 ls []) := by
        intro hjn ls hl
        have hs := q_gb_lt (T := T) (se := ss) (k := k) hi how j
        have hs1 := q_g1_lt (T := T) (k := k) hi hs
        refine lv_iload hx hb dX0_gainBehind_63 (lv_at hl 7 rfl) ?_
        refine lv_aload_n hx hb dX0_gainBehind_65 rfl (lv_at hl 0 rfl) ?_
        refine q_get (ci := 0) (CC := RX0) (T := TX0) (N := 1) (v := .ref hm) hx hb hts hin0 hown hK hP 0 rfl rfl 0 (by decide) (hts (.fieldLink RX0 9 "DearAsMany$Counsel" "market" "LDearAsMany$Market;") (by decide +kernel)) rfl rfl dX0_gainBehind_66 ?_
        refine q_get (ci := 3) (CC := RX3) (T := TX3) (N := 2) (v := .ref hp) hx hb hts hin3 hown hK hP 1 rfl rfl 0 (by decide) (hts (.fieldLink RX0 15 "DearAsMany$Market" "people" "LDearAsMany$People;") (by decide +kernel)) rfl rfl dX0_gainBehind_69 ?_
        refine q_get (ci := 4) (CC := RX4) (T := TX4) (N := 4) (v := .int (nI n)) hx hb hts hin4 hown hK hP 2 rfl rfl 1 (by decide) (hts (.fieldLink RX0 21 "DearAsMany$People" "size" "I") (by decide +kernel)) rfl rfl dX0_gainBehind_72 ?_
        refine q_nge (tgt := 130) hx hb dX0_gainBehind_75 (by decide) (by omega) (by omega) (fun c_75 => ?_) (fun c_75 => ?_)
        · refine lv_iinc (v := nI (j + 1)) (lv' := [(7, .int (nI (j + 1))), (0, .ref hx0), (1, .int (nI i)), (2, .int (nI k)), (3, .int (nI ow)), (4, .int (nI ((q_g1 T n i k (q_gb T n ss i k ow j)).1))), (5, .int (nI ((q_g1 T n i k (q_gb T n ss i k ow j)).2.1))), (6, .int (nI ((q_g1 T n i k (q_gb T n ss i k ow j)).2.2)))]) hx hb dX0_gainBehind_130 hl (k := 7) rfl (nI_add _ 1) (by decide) rfl (fun ls hl => ?_)
          refine lv_goto (tgt := 12) hx hb dX0_gainBehind_133 (by decide) ?_
          have hl : lv_has ls 8 [(7, .int (nI (j + 1))), (0, .ref hx0), (1, .int (nI i)), (2, .int (nI k)), (3, .int (nI ow)), (4, .int (nI ((q_gb T n ss i k ow (j + 1)).1))), (5, .int (nI ((q_g1 T n i k (q_gb T n ss i k ow j)).2.1))), (6, .int (nI ((q_g1 T n i k (q_gb T n ss i k ow j)).2.2)))] := by rw [← show nI ((q_g1 T n i k (q_gb T n ss i k ow j)).1) = nI ((q_gb T n ss i k ow (j + 1)).1) from by show nI _ = nI (q_g2 T n ss i ow j (q_g1 T n i k (q_gb T n ss i k ow j))).1; rw [q_g2F (fun z => absurd z.1 (Nat.not_lt.mpr c_75))]]; exact hl
          have hl : lv_has ls 8 [(7, .int (nI (j + 1))), (0, .ref hx0), (1, .int (nI i)), (2, .int (nI k)), (3, .int (nI ow)), (4, .int (nI ((q_gb T n ss i k ow (j + 1)).1))), (5, .int (nI ((q_gb T n ss i k ow (j + 1)).2.1))), (6, .int (nI ((q_g1 T n i k (q_gb T n ss i k ow j)).2.2)))] := by rw [← show nI ((q_g1 T n i k (q_gb T n ss i k ow j)).2.1) = nI ((q_gb T n ss i k ow (j + 1)).2.1) from by show nI _ = nI (q_g2 T n ss i ow j (q_g1 T n i k (q_gb T n ss i k ow j))).2.1; rw [q_g2F (fun z => absurd z.1 (Nat.not_lt.mpr c_75))]]; exact hl
          have hl : lv_has ls 8 [(7, .int (nI (j + 1))), (0, .ref hx0), (1, .int (nI i)), (2, .int (nI k)), (3, .int (nI ow)), (4, .int (nI ((q_gb T n ss i k ow (j + 1)).1))), (5, .int (nI ((q_gb T n ss i k ow (j + 1)).2.1))), (6, .int (nI ((q_gb T n ss i k ow (j + 1)).2.2)))] := by rw [← show nI ((q_g1 T n i k (q_gb T n ss i k ow j)).2.2) = nI ((q_gb T n ss i k ow (j + 1)).2.2) from by show nI _ = nI (q_g2 T n ss i ow j (q_g1 T n i k (q_gb T n ss i k ow j))).2.2; rw [q_g2F (fun z => absurd z.1 (Nat.not_lt.mpr c_75))]]; exact hl
          exact ih12 (j + 1) (by first | assumption | exact Nat.zero_le _ | omega) (by omega) ls (lv_sub hl [1, 2, 3, 4, 5, 6, 7, 0] rfl)
        · refine lv_iload hx hb dX0_gainBehind_78 (lv_at hl 7 rfl) ?_
          refine lv_iload_n hx hb dX0_gainBehind_80 rfl (lv_at hl 1 rfl) ?_
          refine q_neq (tgt := 130) hx hb dX0_gainBehind_81 (by decide) (by omega) (by omega) (fun c_81 => ?_) (fun c_81 => ?_)
          · refine lv_iinc (v := nI (j + 1)) (lv' := [(7, .int (nI (j + 1))), (0, .ref hx0), (1, .int (nI i)), (2, .int (nI k)), (3, .int (nI ow)), (4, .int (nI ((q_g1 T n i k (q_gb T n ss i k ow j)).1))), (5, .int (nI ((q_g1 T n i k (q_gb T n ss i k ow j)).2.1))), (6, .int (nI ((q_g1 T n i k (q_gb T n ss i k ow j)).2.2)))]) hx hb dX0_gainBehind_130 hl (k := 7) rfl (nI_add _ 1) (by decide) rfl (fun ls hl => ?_)
            refine lv_goto (tgt := 12) hx hb dX0_gainBehind_133 (by decide) ?_
            have hl : lv_has ls 8 [(7, .int (nI (j + 1))), (0, .ref hx0), (1, .int (nI i)), (2, .int (nI k)), (3, .int (nI ow)), (4, .int (nI ((q_gb T n ss i k ow (j + 1)).1))), (5, .int (nI ((q_g1 T n i k (q_gb T n ss i k ow j)).2.1))), (6, .int (nI ((q_g1 T n i k (q_gb T n ss i k ow j)).2.2)))] := by rw [← show nI ((q_g1 T n i k (q_gb T n ss i k ow j)).1) = nI ((q_gb T n ss i k ow (j + 1)).1) from by show nI _ = nI (q_g2 T n ss i ow j (q_g1 T n i k (q_gb T n ss i k ow j))).1; rw [q_g2F (fun z => z.2.1 c_81)]]; exact hl
            have hl : lv_has ls 8 [(7, .int (nI (j + 1))), (0, .ref hx0), (1, .int (nI i)), (2, .int (nI k)), (3, .int (nI ow)), (4, .int (nI ((q_gb T n ss i k ow (j + 1)).1))), (5, .int (nI ((q_gb T n ss i k ow (j + 1)).2.1))), (6, .int (nI ((q_g1 T n i k (q_gb T n ss i k ow j)).2.2)))] := by rw [← show nI ((q_g1 T n i k (q_gb T n ss i k ow j)).2.1) = nI ((q_gb T n ss i k ow (j + 1)).2.1) from by show nI _ = nI (q_g2 T n ss i ow j (q_g1 T n i k (q_gb T n ss i k ow j))).2.1; rw [q_g2F (fun z => z.2.1 c_81)]]; exact hl
            have hl : lv_has ls 8 [(7, .int (nI (j + 1))), (0, .ref hx0), (1, .int (nI i)), (2, .int (nI k)), (3, .int (nI ow)), (4, .int (nI ((q_gb T n ss i k ow (j + 1)).1))), (5, .int (nI ((q_gb T n ss i k ow (j + 1)).2.1))), (6, .int (nI ((q_gb T n ss i k ow (j + 1)).2.2)))] := by rw [← show nI ((q_g1 T n i k (q_gb T n ss i k ow j)).2.2) = nI ((q_gb T n ss i k ow (j + 1)).2.2) from by show nI _ = nI (q_g2 T n ss i ow j (q_g1 T n i k (q_gb T n ss i k ow j))).2.2; rw [q_g2F (fun z => z.2.1 c_81)]]; exact hl
            exact ih12 (j + 1) (by first | assumption | exact Nat.zero_le _ | omega) (by omega) ls (lv_sub hl [1, 2, 3, 4, 5, 6, 7, 0] rfl)
          · refine lv_iload_n hx hb dX0_gainBehind_84 rfl (lv_at hl 3 rfl) ?_
            refine lv_iload hx hb dX0_gainBehind_85 (lv_at hl 7 rfl) ?_
            refine q_ni (As := [.int (nI ow), .int (nI j)]) (rest := []) ⟨hx, hb, hml, hown, hts⟩ (c_X9_has l (D := D) (cI := cI) (cB := cB) (cZ := cZ) (S := ow) (i := j) (by omega) (by omega)) ⟨va_cnB 2 hts gX0_gainBehind_X9_has_n37 rfl rfl rfl (hK.2.at 0 rfl) (hts (.initialized RX9) (by decide +kernel)) (by decide +kernel) ⟨Nat.le_of_ble_eq_true rfl, Nat.le_of_ble_eq_true rfl⟩, hts (.static yX9_has) (by decide +kernel), trivial⟩ hK hP [] rfl rfl hl.1 rfl (Nat.le_of_ble_eq_true rfl) dX0_gainBehind_87 ⟨Nat.zero_le _, Nat.zero_le _⟩ (fun r_87 hr_87 => ?_)
            have hr_87 : bI (ow.testBit j) = r_87 := (show r_87 = bI (ow.testBit j) from hr_87).symm
            subst hr_87
            refine q_bne (tgt := 130) hx hb dX0_gainBehind_90 (by decide) (fun c_90 => ?_) (fun c_90 => ?_)
            · refine lv_iinc (v := nI (j + 1)) (lv' := [(7, .int (nI (j + 1))), (0, .ref hx0), (1, .int (nI i)), (2, .int (nI k)), (3, .int (nI ow)), (4, .int (nI ((q_g1 T n i k (q_gb T n ss i k ow j)).1))), (5, .int (nI ((q_g1 T n i k (q_gb T n ss i k ow j)).2.1))), (6, .int (nI ((q_g1 T n i k (q_gb T n ss i k ow j)).2.2)))]) hx hb dX0_gainBehind_130 hl (k := 7) rfl (nI_add _ 1) (by decide) rfl (fun ls hl => ?_)
              refine lv_goto (tgt := 12) hx hb dX0_gainBehind_133 (by decide) ?_
              have hl : lv_has ls 8 [(7, .int (nI (j + 1))), (0, .ref hx0), (1, .int (nI i)), (2, .int (nI k)), (3, .int (nI ow)), (4, .int (nI ((q_gb T n ss i k ow (j + 1)).1))), (5, .int (nI ((q_g1 T n i k (q_gb T n ss i k ow j)).2.1))), (6, .int (nI ((q_g1 T n i k (q_gb T n ss i k ow j)).2.2)))] := by rw [← show nI ((q_g1 T n i k (q_gb T n ss i k ow j)).1) = nI ((q_gb T n ss i k ow (j + 1)).1) from by show nI _ = nI (q_g2 T n ss i ow j (q_g1 T n i k (q_gb T n ss i k ow j))).1; rw [q_g2F (fun z => by rw [c_90] at z; exact absurd z.2.2 (by decide))]]; exact hl
              have hl : lv_has ls 8 [(7, .int (nI (j + 1))), (0, .ref hx0), (1, .int (nI i)), (2, .int (nI k)), (3, .int (nI ow)), (4, .int (nI ((q_gb T n ss i k ow (j + 1)).1))), (5, .int (nI ((q_gb T n ss i k ow (j + 1)).2.1))), (6, .int (nI ((q_g1 T n i k (q_gb T n ss i k ow j)).2.2)))] := by rw [← show nI ((q_g1 T n i k (q_gb T n ss i k ow j)).2.1) = nI ((q_gb T n ss i k ow (j + 1)).2.1) from by show nI _ = nI (q_g2 T n ss i ow j (q_g1 T n i k (q_gb T n ss i k ow j))).2.1; rw [q_g2F (fun z => by rw [c_90] at z; exact absurd z.2.2 (by decide))]]; exact hl
              have hl : lv_has ls 8 [(7, .int (nI (j + 1))), (0, .ref hx0), (1, .int (nI i)), (2, .int (nI k)), (3, .int (nI ow)), (4, .int (nI ((q_gb T n ss i k ow (j + 1)).1))), (5, .int (nI ((q_gb T n ss i k ow (j + 1)).2.1))), (6, .int (nI ((q_gb T n ss i k ow (j + 1)).2.2)))] := by rw [← show nI ((q_g1 T n i k (q_gb T n ss i k ow j)).2.2) = nI ((q_gb T n ss i k ow (j + 1)).2.2) from by show nI _ = nI (q_g2 T n ss i ow j (q_g1 T n i k (q_gb T n ss i k ow j))).2.2; rw [q_g2F (fun z => by rw [c_90] at z; exact absurd z.2.2 (by decide))]]; exact hl
              exact ih12 (j + 1) (by first | assumption | exact Nat.zero_le _ | omega) (by omega) ls (lv_sub hl [1, 2, 3, 4, 5, 6, 7, 0] rfl)
            · refine lv_aload_n hx hb dX0_gainBehind_93 rfl (lv_at hl 0 rfl) ?_
              refine q_get (ci := 0) (CC := RX0) (T := TX0) (N := 1) (v := .ref hm) hx hb hts hin0 hown hK hP 0 rfl rfl 0 (by decide) (hts (.fieldLink RX0 9 "DearAsMany$Counsel" "market" "LDearAsMany$Market;") (by decide +kernel)) rfl rfl dX0_gainBehind_94 ?_
              refine lv_iload hx hb dX0_gainBehind_97 (lv_at hl 7 rfl) ?_
              refine lv_iload hx hb dX0_gainBehind_99 (lv_at hl 4 rfl) ?_
              refine lv_aload_n hx hb dX0_gainBehind_101 rfl (lv_at hl 0 rfl) ?_
              refine q_get (ci := 0) (CC := RX0) (T := TX0) (N := 1) (v := .ref hm) hx hb hts hin0 hown hK hP 0 rfl rfl 0 (by decide) (hts (.fieldLink RX0 9 "DearAsMany$Counsel" "market" "LDearAsMany$Market;") (by decide +kernel)) rfl rfl dX0_gainBehind_102 ?_
              refine q_get (ci := 3) (CC := RX3) (T := TX3) (N := 2) (v := .ref hp) hx hb hts hin3 hown hK hP 1 rfl rfl 0 (by decide) (hts (.fieldLink RX0 15 "DearAsMany$Market" "people" "LDearAsMany$People;") (by decide +kernel)) rfl rfl dX0_gainBehind_105 ?_
              refine q_get (ci := 4) (CC := RX4) (T := TX4) (N := 4) (v := .int ss) hx hb hts hin4 hown hK hP 2 rfl rfl 3 (by decide) (hts (.fieldLink RX0 48 "DearAsMany$People" "season" "I") (by decide +kernel)) rfl rfl dX0_gainBehind_108 ?_
              refine q_vi (As := [.int (nI j), .int (nI ((q_g1 T n i k (q_gb T n ss i k ow j)).1)), .int ss]) (rest := []) ⟨hx, hb, hml, hown, hts⟩ (c_X3_wants l (D := D) (cI := cI) (cB := cB) (cZ := cZ) (hm := hm) (hp := hp) (hh := hh) (ht := ht) (n := n) (fo := fo) (ss := ss) (tr := tr) (hom := hom) (T := T) (i := j) (S := (q_g1 T n i k (q_gb T n ss i k ow j)).1) (se := ss) (by first | assumption | exact Nat.zero_le _ | omega) (by first | assumption | exact Nat.zero_le _ | omega) (by first | assumption | exact Nat.zero_le _ | omega) (by omega) (hs1)) (cwV 3 hts gX0_gainBehind_X3_wants rfl rfl rfl (by decide +kernel) ⟨Nat.le_of_ble_eq_true rfl, Nat.le_of_ble_eq_true rfl⟩) hK hP [1, 2, 3, 4] rfl 1 3 rfl rfl rfl rfl hl.1 rfl (Nat.le_of_ble_eq_true rfl) dX0_gainBehind_111 ⟨Nat.zero_le _, Nat.zero_le _⟩ (fun r_111 hr_111 => ?_)
              have hr_111 : bI (q_want T n ss j ((q_g1 T n i k (q_gb T n ss i k ow j)).1)) = r_111 := (show r_111 = bI (q_want T n ss j ((q_g1 T n i k (q_gb T n ss i k ow j)).1)) from hr_111).symm
              subst hr_111
              refine q_beq (tgt := 127) hx hb dX0_gainBehind_114 (by decide) (fun c_114 => ?_) (fun c_114 => ?_)
              · refine lv_iinc (v := nI (((q_g1 T n i k (q_gb T n ss i k ow j)).2.1) + 1)) (lv' := [(5, .int (nI (((q_g1 T n i k (q_gb T n ss i k ow j)).2.1) + 1))), (0, .ref hx0), (1, .int (nI i)), (2, .int (nI k)), (3, .int (nI ow)), (4, .int (nI ((q_g1 T n i k (q_gb T n ss i k ow j)).1))), (6, .int (nI ((q_g1 T n i k (q_gb T n ss i k ow j)).2.2))), (7, .int (nI j))]) hx hb dX0_gainBehind_127 hl (k := 5) rfl (nI_add _ 1) (by decide) rfl (fun ls hl => ?_)
                refine lv_iinc (v := nI (j + 1)) (lv' := [(7, .int (nI (j + 1))), (5, .int (nI (((q_g1 T n i k (q_gb T n ss i k ow j)).2.1) + 1))), (0, .ref hx0), (1, .int (nI i)), (2, .int (nI k)), (3, .int (nI ow)), (4, .int (nI ((q_g1 T n i k (q_gb T n ss i k ow j)).1))), (6, .int (nI ((q_g1 T n i k (q_gb T n ss i k ow j)).2.2)))]) hx hb dX0_gainBehind_130 hl (k := 7) rfl (nI_add _ 1) (by decide) rfl (fun ls hl => ?_)
                refine lv_goto (tgt := 12) hx hb dX0_gainBehind_133 (by decide) ?_
                have hl : lv_has ls 8 [(7, .int (nI (j + 1))), (5, .int (nI (((q_g1 T n i k (q_gb T n ss i k ow j)).2.1) + 1))), (0, .ref hx0), (1, .int (nI i)), (2, .int (nI k)), (3, .int (nI ow)), (4, .int (nI ((q_gb T n ss i k ow (j + 1)).1))), (6, .int (nI ((q_g1 T n i k (q_gb T n ss i k ow j)).2.2)))] := by rw [← show nI ((q_g1 T n i k (q_gb T n ss i k ow j)).1) = nI ((q_gb T n ss i k ow (j + 1)).1) from by show nI _ = nI (q_g2 T n ss i ow j (q_g1 T n i k (q_gb T n ss i k ow j))).1; rw [q_g2T (by omega) c_81 c_90]; rw [if_neg (by rw [c_114]; decide)]]; exact hl
                have hl : lv_has ls 8 [(7, .int (nI (j + 1))), (5, .int (nI ((q_gb T n ss i k ow (j + 1)).2.1))), (0, .ref hx0), (1, .int (nI i)), (2, .int (nI k)), (3, .int (nI ow)), (4, .int (nI ((q_gb T n ss i k ow (j + 1)).1))), (6, .int (nI ((q_g1 T n i k (q_gb T n ss i k ow j)).2.2)))] := by rw [← show nI (((q_g1 T n i k (q_gb T n ss i k ow j)).2.1) + 1) = nI ((q_gb T n ss i k ow (j + 1)).2.1) from by show nI _ = nI (q_g2 T n ss i ow j (q_g1 T n i k (q_gb T n ss i k ow j))).2.1; rw [q_g2T (by omega) c_81 c_90]]; exact hl
                have hl : lv_has ls 8 [(7, .int (nI (j + 1))), (5, .int (nI ((q_gb T n ss i k ow (j + 1)).2.1))), (0, .ref hx0), (1, .int (nI i)), (2, .int (nI k)), (3, .int (nI ow)), (4, .int (nI ((q_gb T n ss i k ow (j + 1)).1))), (6, .int (nI ((q_gb T n ss i k ow (j + 1)).2.2)))] := by rw [← show nI ((q_g1 T n i k (q_gb T n ss i k ow j)).2.2) = nI ((q_gb T n ss i k ow (j + 1)).2.2) from by show nI _ = nI (q_g2 T n ss i ow j (q_g1 T n i k (q_gb T n ss i k ow j))).2.2; rw [q_g2T (by omega) c_81 c_90]]; exact hl
                exact ih12 (j + 1) (by first | assumption | exact Nat.zero_le _ | omega) (by omega) ls (lv_sub hl [2, 3, 4, 5, 6, 1, 7, 0] rfl)
              · refine lv_iload hx hb dX0_gainBehind_117 (lv_at hl 4 rfl) ?_
                refine lv_iload hx hb dX0_gainBehind_119 (lv_at hl 7 rfl) ?_
                refine q_ni (As := [.int (nI j)]) (rest := [.int (nI ((q_g1 T n i k (q_gb T n ss i k ow j)).1))]) ⟨hx, hb, hml, hown, hts⟩ (c_X9_bit l (D := D) (cI := cI) (cB := cB) (cZ := cZ) (i := j) (by omega)) ⟨va_cnB 1 hts gX0_gainBehind_X9_bit_n45 rfl rfl rfl (hK.2.at 1 rfl) (hts (.initialized RX9) (by decide +kernel)) (by decide +kernel) ⟨Nat.le_of_ble_eq_true rfl, Nat.le_of_ble_eq_true rfl⟩, hts (.static yX9_bit) (by decide +kernel), trivial⟩ hK hP [] rfl rfl hl.1 rfl (Nat.le_of_ble_eq_true rfl) dX0_gainBehind_121 ⟨Nat.zero_le _, Nat.zero_le _⟩ (fun r_121 hr_121 => ?_)
                have hr_121 : nI (2 ^ j) = r_121 := (show r_121 = nI (2 ^ j) from hr_121).symm
                subst hr_121
                refine q_ior (v := nI (((q_g1 T n i k (q_gb T n ss i k ow j)).1) ||| (2 ^ j))) hx hb dX0_gainBehind_124 (q_or _ _) ?_
                refine lv_istore (lv' := [(4, .int (nI (((q_g1 T n i k (q_gb T n ss i k ow j)).1) ||| (2 ^ j)))), (0, .ref hx0), (1, .int (nI i)), (2, .int (nI k)), (3, .int (nI ow)), (5, .int (nI ((q_g1 T n i k (q_gb T n ss i k ow j)).2.1))), (6, .int (nI ((q_g1 T n i k (q_gb T n ss i k ow j)).2.2))), (7, .int (nI j))]) hx hb dX0_gainBehind_125 hl (by decide) rfl (fun ls hl => ?_)
                refine lv_iinc (v := nI (((q_g1 T n i k (q_gb T n ss i k ow j)).2.1) + 1)) (lv' := [(5, .int (nI (((q_g1 T n i k (q_gb T n ss i k ow j)).2.1) + 1))), (4, .int (nI (((q_g1 T n i k (q_gb T n ss i k ow j)).1) ||| (2 ^ j)))), (0, .ref hx0), (1, .int (nI i)), (2, .int (nI k)), (3, .int (nI ow)), (6, .int (nI ((q_g1 T n i k (q_gb T n ss i k ow j)).2.2))), (7, .int (nI j))]) hx hb dX0_gainBehind_127 hl (k := 5) rfl (nI_add _ 1) (by decide) rfl (fun ls hl => ?_)
                refine lv_iinc (v := nI (j + 1)) (lv' := [(7, .int (nI (j + 1))), (5, .int (nI (((q_g1 T n i k (q_gb T n ss i k ow j)).2.1) + 1))), (4, .int (nI (((q_g1 T n i k (q_gb T n ss i k ow j)).1) ||| (2 ^ j)))), (0, .ref hx0), (1, .int (nI i)), (2, .int (nI k)), (3, .int (nI ow)), (6, .int (nI ((q_g1 T n i k (q_gb T n ss i k ow j)).2.2)))]) hx hb dX0_gainBehind_130 hl (k := 7) rfl (nI_add _ 1) (by decide) rfl (fun ls hl => ?_)
                refine lv_goto (tgt := 12) hx hb dX0_gainBehind_133 (by decide) ?_
                have hl : lv_has ls 8 [(7, .int (nI (j + 1))), (5, .int (nI (((q_g1 T n i k (q_gb T n ss i k ow j)).2.1) + 1))), (4, .int (nI ((q_gb T n ss i k ow (j + 1)).1))), (0, .ref hx0), (1, .int (nI i)), (2, .int (nI k)), (3, .int (nI ow)), (6, .int (nI ((q_g1 T n i k (q_gb T n ss i k ow j)).2.2)))] := by rw [← show nI (((q_g1 T n i k (q_gb T n ss i k ow j)).1) ||| (2 ^ j)) = nI ((q_gb T n ss i k ow (j + 1)).1) from by show nI _ = nI (q_g2 T n ss i ow j (q_g1 T n i k (q_gb T n ss i k ow j))).1; rw [q_g2T (by omega) c_81 c_90]; rw [if_pos c_114]]; exact hl
                have hl : lv_has ls 8 [(7, .int (nI (j + 1))), (5, .int (nI ((q_gb T n ss i k ow (j + 1)).2.1))), (4, .int (nI ((q_gb T n ss i k ow (j + 1)).1))), (0, .ref hx0), (1, .int (nI i)), (2, .int (nI k)), (3, .int (nI ow)), (6, .int (nI ((q_g1 T n i k (q_gb T n ss i k ow j)).2.2)))] := by rw [← show nI (((q_g1 T n i k (q_gb T n ss i k ow j)).2.1) + 1) = nI ((q_gb T n ss i k ow (j + 1)).2.1) from by show nI _ = nI (q_g2 T n ss i ow j (q_g1 T n i k (q_gb T n ss i k ow j))).2.1; rw [q_g2T (by omega) c_81 c_90]]; exact hl
                have hl : lv_has ls 8 [(7, .int (nI (j + 1))), (5, .int (nI ((q_gb T n ss i k ow (j + 1)).2.1))), (4, .int (nI ((q_gb T n ss i k ow (j + 1)).1))), (0, .ref hx0), (1, .int (nI i)), (2, .int (nI k)), (3, .int (nI ow)), (6, .int (nI ((q_gb T n ss i k ow (j + 1)).2.2)))] := by rw [← show nI ((q_g1 T n i k (q_gb T n ss i k ow j)).2.2) = nI ((q_gb T n ss i k ow (j + 1)).2.2) from by show nI _ = nI (q_g2 T n ss i ow j (q_g1 T n i k (q_gb T n ss i k ow j))).2.2; rw [q_g2T (by omega) c_81 c_90]]; exact hl
                exact ih12 (j + 1) (by first | assumption | exact Nat.zero_le _ | omega) (by omega) ls (lv_sub hl [3, 4, 5, 6, 2, 1, 7, 0] rfl)
      have hs := q_gb_lt (T := T) (se := ss) (k := k) hi how j
      have hcm := q_gb_c (T := T) (n := n) (se := ss) (i := i) (k := k) (ow := ow) j
      refine lv_iload hx hb dX0_gainBehind_12 (lv_at hl 7 rfl) ?_
      refine lv_aload_n hx hb dX0_gainBehind_14 rfl (lv_at hl 0 rfl) ?_
      refine q_get (ci := 0) (CC := RX0) (T := TX0) (N := 1) (v := .ref hm) hx hb hts hin0 hown hK hP 0 rfl rfl 0 (by decide) (hts (.fieldLink RX0 9 "DearAsMany$Counsel" "market" "LDearAsMany$Market;") (by decide +kernel)) rfl rfl dX0_gainBehind_15 ?_
      refine q_get (ci := 3) (CC := RX3) (T := TX3) (N := 2) (v := .ref hp) hx hb hts hin3 hown hK hP 1 rfl rfl 0 (by decide) (hts (.fieldLink RX0 15 "DearAsMany$Market" "people" "LDearAsMany$People;") (by decide +kernel)) rfl rfl dX0_gainBehind_18 ?_
      refine q_get (ci := 4) (CC := RX4) (T := TX4) (N := 4) (v := .int (nI n)) hx hb hts hin4 hown hK hP 2 rfl rfl 1 (by decide) (hts (.fieldLink RX0 21 "DearAsMany$People" "size" "I") (by decide +kernel)) rfl rfl dX0_gainBehind_21 ?_
      refine q_ngt (tgt := 136) hx hb dX0_gainBehind_24 (by decide) (by omega) (by omega) (fun c_24 => ?_) (fun c_24 => ?_)
      · refine lv_aload_n hx hb dX0_gainBehind_136 rfl (lv_at hl 0 rfl) ?_
        refine q_get (ci := 0) (CC := RX0) (T := TX0) (N := 1) (v := .ref hm) hx hb hts hin0 hown hK hP 0 rfl rfl 0 (by decide) (hts (.fieldLink RX0 9 "DearAsMany$Counsel" "market" "LDearAsMany$Market;") (by decide +kernel)) rfl rfl dX0_gainBehind_137 ?_
        refine lv_iload_n hx hb dX0_gainBehind_140 rfl (lv_at hl 1 rfl) ?_
        refine lv_iload hx hb dX0_gainBehind_141 (lv_at hl 4 rfl) ?_
        refine lv_aload_n hx hb dX0_gainBehind_143 rfl (lv_at hl 0 rfl) ?_
        refine q_get (ci := 0) (CC := RX0) (T := TX0) (N := 1) (v := .ref hm) hx hb hts hin0 hown hK hP 0 rfl rfl 0 (by decide) (hts (.fieldLink RX0 9 "DearAsMany$Counsel" "market" "LDearAsMany$Market;") (by decide +kernel)) rfl rfl dX0_gainBehind_144 ?_
        refine q_get (ci := 3) (CC := RX3) (T := TX3) (N := 2) (v := .ref hp) hx hb hts hin3 hown hK hP 1 rfl rfl 0 (by decide) (hts (.fieldLink RX0 15 "DearAsMany$Market" "people" "LDearAsMany$People;") (by decide +kernel)) rfl rfl dX0_gainBehind_147 ?_
        refine q_get (ci := 4) (CC := RX4) (T := TX4) (N := 4) (v := .int ss) hx hb hts hin4 hown hK hP 2 rfl rfl 3 (by decide) (hts (.fieldLink RX0 48 "DearAsMany$People" "season" "I") (by decide +kernel)) rfl rfl dX0_gainBehind_150 ?_
        refine q_vi (As := [.int (nI i), .int (nI ((q_gb T n ss i k ow j).1)), .int ss]) (rest := []) ⟨hx, hb, hml, hown, hts⟩ (c_X3_valueTo l (D := D) (cI := cI) (cB := cB) (cZ := cZ) (hm := hm) (hp := hp) (hh := hh) (ht := ht) (n := n) (fo := fo) (ss := ss) (tr := tr) (hom := hom) (T := T) (i := i) (S := (q_gb T n ss i k ow j).1) (se := ss) (by first | assumption | exact Nat.zero_le _ | omega) (by first | assumption | exact Nat.zero_le _ | omega) (by first | assumption | exact Nat.zero_le _ | omega) (by first | assumption | exact Nat.zero_le _ | omega) (hs)) (cwV 3 hts gX0_gainBehind_X3_valueTo rfl rfl rfl (by decide +kernel) ⟨Nat.le_of_ble_eq_true rfl, Nat.le_of_ble_eq_true rfl⟩) hK hP [1, 2, 3, 4] rfl 1 3 rfl rfl rfl rfl hl.1 rfl (Nat.le_of_ble_eq_true rfl) dX0_gainBehind_153 ⟨Nat.zero_le _, Nat.zero_le _⟩ (fun r_153 hr_153 => ?_)
        have hr_153 : q_wor T n ss i ((q_gb T n ss i k ow j).1) = r_153 := (show r_153 = q_wor T n ss i ((q_gb T n ss i k ow j).1) from hr_153).symm
        subst hr_153
        refine lv_iload hx hb dX0_gainBehind_156 (lv_at hl 6 rfl) ?_
        refine q_isub (v := (q_wor T n ss i ((q_gb T n ss i k ow j).1)) - (nI ((q_gb T n ss i k ow j).2.2))) hx hb dX0_gainBehind_158 (rfl) ?_
        exact q_zret (v := (q_wor T n ss i ((q_gb T n ss i k ow j).1)) - (nI ((q_gb T n ss i k ow j).2.2))) hx hb hr hlocks (rfl) (show (q_wor T n ss i ((q_gb T n ss i k ow j).1)) - (nI ((q_gb T n ss i k ow j).2.2)) = q_gain T n ss i ow k from by rw [show j = n + 1 from by omega]; rfl) dX0_gainBehind_159
      · refine lv_iload hx hb dX0_gainBehind_27 (lv_at hl 5 rfl) ?_
        refine lv_iload_n hx hb dX0_gainBehind_29 rfl (lv_at hl 2 rfl) ?_
        refine q_nne (tgt := 63) hx hb dX0_gainBehind_30 (by decide) (by omega) (by omega) (fun c_30 => ?_) (fun c_30 => ?_)
        · have hl : lv_has ls 8 [(0, .ref hx0), (1, .int (nI i)), (2, .int (nI k)), (3, .int (nI ow)), (4, .int (nI ((q_g1 T n i k (q_gb T n ss i k ow j)).1))), (5, .int (nI ((q_gb T n ss i k ow j).2.1))), (6, .int (nI ((q_gb T n ss i k ow j).2.2))), (7, .int (nI j))] := by rw [← show nI ((q_gb T n ss i k ow j).1) = nI ((q_g1 T n i k (q_gb T n ss i k ow j)).1) from by rw [q_g1F (fun z => c_30 z.1)]]; exact hl
          have hl : lv_has ls 8 [(0, .ref hx0), (1, .int (nI i)), (2, .int (nI k)), (3, .int (nI ow)), (4, .int (nI ((q_g1 T n i k (q_gb T n ss i k ow j)).1))), (5, .int (nI ((q_g1 T n i k (q_gb T n ss i k ow j)).2.1))), (6, .int (nI ((q_gb T n ss i k ow j).2.2))), (7, .int (nI j))] := by rw [← show nI ((q_gb T n ss i k ow j).2.1) = nI ((q_g1 T n i k (q_gb T n ss i k ow j)).2.1) from by rw [q_g1F (fun z => c_30 z.1)]]; exact hl
          have hl : lv_has ls 8 [(0, .ref hx0), (1, .int (nI i)), (2, .int (nI k)), (3, .int (nI ow)), (4, .int (nI ((q_g1 T n i k (q_gb T n ss i k ow j)).1))), (5, .int (nI ((q_g1 T n i k (q_gb T n ss i k ow j)).2.1))), (6, .int (nI ((q_g1 T n i k (q_gb T n ss i k ow j)).2.2))), (7, .int (nI j))] := by rw [← show nI ((q_gb T n ss i k ow j).2.2) = nI ((q_g1 T n i k (q_gb T n ss i k ow j)).2.2) from by rw [q_g1F (fun z => c_30 z.1)]]; exact hl
          exact L63 (by first | assumption | exact Nat.zero_le _ | omega) ls (lv_sub hl [0, 1, 2, 3, 4, 5, 6, 7] rfl)
        · refine lv_iload hx hb dX0_gainBehind_33 (lv_at hl 4 rfl) ?_
          refine lv_iload_n hx hb dX0_gainBehind_35 rfl (lv_at hl 1 rfl) ?_
          refine q_ni (As := [.int (nI ((q_gb T n ss i k ow j).1)), .int (nI i)]) (rest := []) ⟨hx, hb, hml, hown, hts⟩ (c_X9_has l (D := D) (cI := cI) (cB := cB) (cZ := cZ) (S := (q_gb T n ss i k ow j).1) (i := i) (by omega) (by omega)) ⟨va_cnB 2 hts gX0_gainBehind_X9_has_n37 rfl rfl rfl (hK.2.at 0 rfl) (hts (.initialized RX9) (by decide +kernel)) (by decide +kernel) ⟨Nat.le_of_ble_eq_true rfl, Nat.le_of_ble_eq_true rfl⟩, hts (.static yX9_has) (by decide +kernel), trivial⟩ hK hP [] rfl rfl hl.1 rfl (Nat.le_of_ble_eq_true rfl) dX0_gainBehind_36 ⟨Nat.zero_le _, Nat.zero_le _⟩ (fun r_36 hr_36 => ?_)
          have hr_36 : bI (((q_gb T n ss i k ow j).1).testBit i) = r_36 := (show r_36 = bI (((q_gb T n ss i k ow j).1).testBit i) from hr_36).symm
          subst hr_36
          refine q_bne (tgt := 63) hx hb dX0_gainBehind_39 (by decide) (fun c_39 => ?_) (fun c_39 => ?_)
          · have hl : lv_has ls 8 [(0, .ref hx0), (1, .int (nI i)), (2, .int (nI k)), (3, .int (nI ow)), (4, .int (nI ((q_g1 T n i k (q_gb T n ss i k ow j)).1))), (5, .int (nI ((q_gb T n ss i k ow j).2.1))), (6, .int (nI ((q_gb T n ss i k ow j).2.2))), (7, .int (nI j))] := by rw [← show nI ((q_gb T n ss i k ow j).1) = nI ((q_g1 T n i k (q_gb T n ss i k ow j)).1) from by rw [q_g1F (fun z => by rw [c_39] at z; exact absurd z.2 (by decide))]]; exact hl
            have hl : lv_has ls 8 [(0, .ref hx0), (1, .int (nI i)), (2, .int (nI k)), (3, .int (nI ow)), (4, .int (nI ((q_g1 T n i k (q_gb T n ss i k ow j)).1))), (5, .int (nI ((q_g1 T n i k (q_gb T n ss i k ow j)).2.1))), (6, .int (nI ((q_gb T n ss i k ow j).2.2))), (7, .int (nI j))] := by rw [← show nI ((q_gb T n ss i k ow j).2.1) = nI ((q_g1 T n i k (q_gb T n ss i k ow j)).2.1) from by rw [q_g1F (fun z => by rw [c_39] at z; exact absurd z.2 (by decide))]]; exact hl
            have hl : lv_has ls 8 [(0, .ref hx0), (1, .int (nI i)), (2, .int (nI k)), (3, .int (nI ow)), (4, .int (nI ((q_g1 T n i k (q_gb T n ss i k ow j)).1))), (5, .int (nI ((q_g1 T n i k (q_gb T n ss i k ow j)).2.1))), (6, .int (nI ((q_g1 T n i k (q_gb T n ss i k ow j)).2.2))), (7, .int (nI j))] := by rw [← show nI ((q_gb T n ss i k ow j).2.2) = nI ((q_g1 T n i k (q_gb T n ss i k ow j)).2.2) from by rw [q_g1F (fun z => by rw [c_39] at z; exact absurd z.2 (by decide))]]; exact hl
            exact L63 (by first | assumption | exact Nat.zero_le _ | omega) ls (lv_sub hl [0, 1, 2, 3, 4, 5, 6, 7] rfl)
          · refine lv_aload_n hx hb dX0_gainBehind_42 rfl (lv_at hl 0 rfl) ?_
            refine q_get (ci := 0) (CC := RX0) (T := TX0) (N := 1) (v := .ref hm) hx hb hts hin0 hown hK hP 0 rfl rfl 0 (by decide) (hts (.fieldLink RX0 9 "DearAsMany$Counsel" "market" "LDearAsMany$Market;") (by decide +kernel)) rfl rfl dX0_gainBehind_43 ?_
            refine lv_iload_n hx hb dX0_gainBehind_46 rfl (lv_at hl 1 rfl) ?_
            refine lv_iload hx hb dX0_gainBehind_47 (lv_at hl 4 rfl) ?_
            refine q_vi (As := [.int (nI i), .int (nI ((q_gb T n ss i k ow j).1))]) (rest := []) ⟨hx, hb, hml, hown, hts⟩ (c_X3_othersOf l (D := D) (cI := cI) (cB := cB) (cZ := cZ) (hm := hm) (hp := hp) (hh := hh) (ht := ht) (n := n) (fo := fo) (ss := ss) (tr := tr) (hom := hom) (T := T) (i := i) (S := (q_gb T n ss i k ow j).1) (by first | assumption | exact Nat.zero_le _ | omega) (by first | assumption | exact Nat.zero_le _ | omega) (by first | assumption | exact Nat.zero_le _ | omega) (by first | assumption | exact Nat.zero_le _ | omega) (hs)) (cwV 2 hts gX0_gainBehind_X3_othersOf rfl rfl rfl (by decide +kernel) ⟨Nat.le_of_ble_eq_true rfl, Nat.le_of_ble_eq_true rfl⟩) hK hP [1, 2, 3, 4] rfl 1 3 rfl rfl rfl rfl hl.1 rfl (Nat.le_of_ble_eq_true rfl) dX0_gainBehind_49 ⟨Nat.zero_le _, Nat.zero_le _⟩ (fun r_49 hr_49 => ?_)
            have hr_49 : nI (q_oth T n i ((q_gb T n ss i k ow j).1)) = r_49 := (show r_49 = nI (q_oth T n i ((q_gb T n ss i k ow j).1)) from hr_49).symm
            subst hr_49
            refine lv_istore (lv' := [(6, .int (nI (q_oth T n i ((q_gb T n ss i k ow j).1)))), (0, .ref hx0), (1, .int (nI i)), (2, .int (nI k)), (3, .int (nI ow)), (4, .int (nI ((q_gb T n ss i k ow j).1))), (5, .int (nI ((q_gb T n ss i k ow j).2.1))), (7, .int (nI j))]) hx hb dX0_gainBehind_52 hl (by decide) rfl (fun ls hl => ?_)
            refine lv_iload hx hb dX0_gainBehind_54 (lv_at hl 5 rfl) ?_
            refine lv_iload_n hx hb dX0_gainBehind_56 rfl (lv_at hl 2 rfl) ?_
            refine q_ni (As := [.int (nI i)]) (rest := [.int (nI ((q_gb T n ss i k ow j).1))]) ⟨hx, hb, hml, hown, hts⟩ (c_X9_bit l (D := D) (cI := cI) (cB := cB) (cZ := cZ) (i := i) (by omega)) ⟨va_cnB 1 hts gX0_gainBehind_X9_bit_n45 rfl rfl rfl (hK.2.at 1 rfl) (hts (.initialized RX9) (by decide +kernel)) (by decide +kernel) ⟨Nat.le_of_ble_eq_true rfl, Nat.le_of_ble_eq_true rfl⟩, hts (.static yX9_bit) (by decide +kernel), trivial⟩ hK hP [] rfl rfl hl.1 rfl (Nat.le_of_ble_eq_true rfl) dX0_gainBehind_57 ⟨Nat.zero_le _, Nat.zero_le _⟩ (fun r_57 hr_57 => ?_)
            have hr_57 : nI (2 ^ i) = r_57 := (show r_57 = nI (2 ^ i) from hr_57).symm
            subst hr_57
            refine q_ior (v := nI (((q_gb T n ss i k ow j).1) ||| (2 ^ i))) hx hb dX0_gainBehind_60 (q_or _ _) ?_
            refine lv_istore (lv' := [(4, .int (nI (((q_gb T n ss i k ow j).1) ||| (2 ^ i)))), (6, .int (nI (q_oth T n i ((q_gb T n ss i k ow j).1)))), (0, .ref hx0), (1, .int (nI i)), (2, .int (nI k)), (3, .int (nI ow)), (5, .int (nI ((q_gb T n ss i k ow j).2.1))), (7, .int (nI j))]) hx hb dX0_gainBehind_61 hl (by decide) rfl (fun ls hl => ?_)
            have hl : lv_has ls 8 [(4, .int (nI ((q_g1 T n i k (q_gb T n ss i k ow j)).1))), (6, .int (nI (q_oth T n i ((q_gb T n ss i k ow j).1)))), (0, .ref hx0), (1, .int (nI i)), (2, .int (nI k)), (3, .int (nI ow)), (5, .int (nI ((q_gb T n ss i k ow j).2.1))), (7, .int (nI j))] := by rw [← show nI (((q_gb T n ss i k ow j).1) ||| (2 ^ i)) = nI ((q_g1 T n i k (q_gb T n ss i k ow j)).1) from by rw [q_g1T c_30 c_39]]; exact hl
            have hl : lv_has ls 8 [(4, .int (nI ((q_g1 T n i k (q_gb T n ss i k ow j)).1))), (6, .int (nI (q_oth T n i ((q_gb T n ss i k ow j).1)))), (0, .ref hx0), (1, .int (nI i)), (2, .int (nI k)), (3, .int (nI ow)), (5, .int (nI ((q_g1 T n i k (q_gb T n ss i k ow j)).2.1))), (7, .int (nI j))] := by rw [← show nI ((q_gb T n ss i k ow j).2.1) = nI ((q_g1 T n i k (q_gb T n ss i k ow j)).2.1) from by rw [q_g1T c_30 c_39]]; exact hl
            have hl : lv_has ls 8 [(4, .int (nI ((q_g1 T n i k (q_gb T n ss i k ow j)).1))), (6, .int (nI ((q_g1 T n i k (q_gb T n ss i k ow j)).2.2))), (0, .ref hx0), (1, .int (nI i)), (2, .int (nI k)), (3, .int (nI ow)), (5, .int (nI ((q_g1 T n i k (q_gb T n ss i k ow j)).2.1))), (7, .int (nI j))] := by rw [← show nI (q_oth T n i ((q_gb T n ss i k ow j).1)) = nI ((q_g1 T n i k (q_gb T n ss i k ow j)).2.2) from by rw [q_g1T c_30 c_39]]; exact hl
            exact L63 (by first | assumption | exact Nat.zero_le _ | omega) ls (lv_sub hl [2, 3, 4, 5, 0, 6, 1, 7] rfl)
  refine lv_iload_n hx hb dX0_gainBehind_0 rfl (lv_at hl 3 rfl) ?_
  refine lv_istore (lv' := [(4, .int (nI ow)), (0, .ref hx0), (1, .int (nI i)), (2, .int (nI k)), (3, .int (nI ow))]) hx hb dX0_gainBehind_1 hl (by decide) rfl (fun ls hl => ?_)
  refine lv_iconst (v := nI 0) hx hb dX0_gainBehind_3 (by decide) ?_
  refine lv_istore (lv' := [(5, .int (nI 0)), (4, .int (nI ow)), (0, .ref hx0), (1, .int (nI i)), (2, .int (nI k)), (3, .int (nI ow))]) hx hb dX0_gainBehind_4 hl (by decide) rfl (fun ls hl => ?_)
  refine lv_iconst (v := nI 0) hx hb dX0_gainBehind_6 (by decide) ?_
  refine lv_istore (lv' := [(6, .int (nI 0)), (5, .int (nI 0)), (4, .int (nI ow)), (0, .ref hx0), (1, .int (nI i)), (2, .int (nI k)), (3, .int (nI ow))]) hx hb dX0_gainBehind_7 hl (by decide) rfl (fun ls hl => ?_)
  refine lv_iconst (v := nI 0) hx hb dX0_gainBehind_9 (by decide) ?_
  refine lv_istore (lv' := [(7, .int (nI 0)), (6, .int (nI 0)), (5, .int (nI 0)), (4, .int (nI ow)), (0, .ref hx0), (1, .int (nI i)), (2, .int (nI k)), (3, .int (nI ow))]) hx hb dX0_gainBehind_10 hl (by decide) rfl (fun ls hl => ?_)
  exact L12 _ 0 (by first | assumption | exact Nat.zero_le _ | omega) (Nat.lt_succ_self _) ls (lv_sub hl [4, 5, 6, 7, 3, 2, 1, 0] rfl)

set_option maxHeartbeats 4000000 in
set_option maxRecDepth 100000 in
theorem c_X0_bestAhead (l : Launch) {D : va_G} {cI cB cZ : ClassId} {hx0 : Nat} {hm : Nat} {hp : Nat} {hh : Nat} {ht : Nat} {n : Nat} {fo : Int32} {ss : Int32} {tr : Nat → Int32} {hom : Nat → Int32} {T : Nat → Nat → Nat} {i : Nat} {ow : Nat} (hT : q_Tr T n tr) (hB : q_Bd T n) (hH : q_Hm T n hom) (hi : i < n) (how : ow < 2 ^ n) (hno : ow.testBit i = false) : Met l yX0_bestAhead wsX0_bestAhead ({ frames := 4, cells := 0, slots := 0, locals := 98 } : Room) (va_Pc [.ref hx0, .int (nI i), .int (nI ow)] (q_B D (q_tys cI cB cZ) [(hx0, .inr (0, [.ref hm])), (hm, .inr (3, [.ref hp, .ref hh])), (hp, .inr (4, [.ref ht, .int (nI n), .int fo, .int ss])), (ht, .inl (cI, 35, .inl tr)), (hh, .inl (cI, 128, .inl hom))])) (vp_Si (fun r => r = nI ((q_ba (q_gain T n ss i ow) (n - pop8 ow - 1)).1))) 0 0 (fun _ => False) := by
  refine Met.ofW (cc := cX0_bestAhead) (maxL := 8) (ret := (some .int)) (by decide) rfl ?_
  intro p e s m args below meth c s₁ B hml hv
  obtain ⟨rfl, hP, hK⟩ := hv
  have hx := B.exec
  have hb := B.bytes
  have hr := B.returns
  have hts := atoms_spec (ws := wsX0_bestAhead) B.pre
  have hown : s.vm.findClass RX0 = some m.cls := findClass_of_methodNamed B.named
  have hlocks := B.notSynchronized
  have hin0 : ∀ w ∈ u_ws RX0 TX0 1, w ∈ wsX0_bestAhead := by decide +kernel
  have hin3 : ∀ w ∈ u_ws RX3 TX3 2, w ∈ wsX0_bestAhead := by decide +kernel
  have hin4 : ∀ w ∈ u_ws RX4 TX4 4, w ∈ wsX0_bestAhead := by decide +kernel
  have hP : va_P D vwCl [(hx0, .inr (0, [.ref hm])), (hm, .inr (3, [.ref hp, .ref hh])), (hp, .inr (4, [.ref ht, .int (nI n), .int fo, .int ss])), (ht, .inl (cI, 35, .inl tr)), (hh, .inl (cI, 128, .inl hom))] s.heap := hP
  have hl := lv_entry ([.ref hx0, .int (nI i), .int (nI ow)]) (n := 8) (Nat.le_of_ble_eq_true rfl)
  rw [lg_entry_eq]
  generalize (lg_sl ([.ref hx0, .int (nI i), .int (nI ow)]) ++ List.replicate (8 - (lg_sl ([.ref hx0, .int (nI i), .int (nI ow)])).length) Slot.unset).toArray = ls at hl ⊢
  have hl : lv_has ls 8 [(0, .ref hx0), (1, .int (nI i)), (2, .int (nI ow))] := hl
  have hn7 := hB.1
  have hp2 : 2 ^ n ≤ 128 := q_p2 hB.1
  have hpn := q_pop_n hn7 how hi hno
  have L33 : ∀ (fuel : Nat) (m1 : Nat) (hm1 : m1 ≤ n - pop8 ow - 1) (hf : n - m1 < fuel) (ls : Array Slot) (hl : lv_has ls 8 [(0, .ref hx0), (1, .int (nI i)), (2, .int (nI ow)), (3, .int (nI (n - pop8 ow - 1))), (4, .int (nI ((q_ba (q_gain T n ss i ow) m1).1))), (5, .int ((q_ba (q_gain T n ss i ow) m1).2)), (6, .int (nI (m1 + 1)))]), W p l e (headSpec wsX0_bestAhead ({ frames := 4, cells := 0, slots := 0, locals := 98 } : Room)).room s m ([.ref hx0, .int (nI i), .int (nI ow)] : List Value).toArray below meth c s.heap [] 0 0 (MQ below (vp_Si (fun r => r = nI ((q_ba (q_gain T n ss i ow) (n - pop8 ow - 1)).1))) ([.ref hx0, .int (nI i), .int (nI ow)] : List Value).toArray s 0 0 (fun _ => False)) (F0 m 33 ls []) := by
    intro fuel
    induction fuel with
    | zero =>
      intro m1 hm1 hf ls hl
      exact absurd hf (Nat.not_lt_zero _)
    | succ fuel ih33 =>
      intro m1 hm1 hf ls hl
      refine lv_iload hx hb dX0_bestAhead_33 (lv_at hl 6 rfl) ?_
      refine lv_iload_n hx hb dX0_bestAhead_35 rfl (lv_at hl 3 rfl) ?_
      refine q_ngt (tgt := 70) hx hb dX0_bestAhead_36 (by decide) (by omega) (by omega) (fun c_36 => ?_) (fun c_36 => ?_)
      · refine lv_iload hx hb dX0_bestAhead_70 (lv_at hl 4 rfl) ?_
        exact q_zret (v := nI ((q_ba (q_gain T n ss i ow) m1).1)) hx hb hr hlocks (rfl) (show nI ((q_ba (q_gain T n ss i ow) m1).1) = nI ((q_ba (q_gain T n ss i ow) (n - pop8 ow - 1)).1) from by rw [show m1 = n - pop8 ow - 1 from by omega]) dX0_bestAhead_72
      · refine lv_aload_n hx hb dX0_bestAhead_39 rfl (lv_at hl 0 rfl) ?_
        refine lv_iload_n hx hb dX0_bestAhead_40 rfl (lv_at hl 1 rfl) ?_
        refine lv_iload hx hb dX0_bestAhead_41 (lv_at hl 6 rfl) ?_
        refine lv_iload_n hx hb dX0_bestAhead_43 rfl (lv_at hl 2 rfl) ?_
        refine q_vi (As := [.int (nI i), .int (nI (m1 + 1)), .int (nI ow)]) (rest := []) ⟨hx, hb, hml, hown, hts⟩ (c_X0_gainBehind l (D := D) (cI := cI) (cB := cB) (cZ := cZ) (hx0 := hx0) (hm := hm) (hp := hp) (hh := hh) (ht := ht) (n := n) (fo := fo) (ss := ss) (tr := tr) (hom := hom) (T := T) (i := i) (k := m1 + 1) (ow := ow) (by first | assumption | exact Nat.zero_le _ | omega) (by first | assumption | exact Nat.zero_le _ | omega) (by first | assumption | exact Nat.zero_le _ | omega) (by first | assumption | exact Nat.zero_le _ | omega) (by first | assumption | exact Nat.zero_le _ | omega) (by omega)) (cwV 3 hts gX0_bestAhead_X0_gainBehind rfl rfl rfl (by decide +kernel) ⟨Nat.le_of_ble_eq_true rfl, Nat.le_of_ble_eq_true rfl⟩) hK hP [0, 1, 2, 3, 4] rfl 0 0 rfl rfl rfl rfl hl.1 rfl (Nat.le_of_ble_eq_true rfl) dX0_bestAhead_44 ⟨Nat.zero_le _, Nat.zero_le _⟩ (fun r_44 hr_44 => ?_)
        have hr_44 : q_gain T n ss i ow (m1 + 1) = r_44 := (show r_44 = q_gain T n ss i ow (m1 + 1) from hr_44).symm
        subst hr_44
        refine lv_istore (lv' := [(7, .int (q_gain T n ss i ow (m1 + 1))), (0, .ref hx0), (1, .int (nI i)), (2, .int (nI ow)), (3, .int (nI (n - pop8 ow - 1))), (4, .int (nI ((q_ba (q_gain T n ss i ow) m1).1))), (5, .int ((q_ba (q_gain T n ss i ow) m1).2)), (6, .int (nI (m1 + 1)))]) hx hb dX0_bestAhead_47 hl (by decide) rfl (fun ls hl => ?_)
        refine lv_iload hx hb dX0_bestAhead_49 (lv_at hl 0 rfl) ?_
        refine lv_iload hx hb dX0_bestAhead_51 (lv_at hl 6 rfl) ?_
        refine lv_icmp_le (x := q_gain T n ss i ow (m1 + 1)) (y := (q_ba (q_gain T n ss i ow) m1).2) (tgt := 64) hx hb dX0_bestAhead_53 (by decide) (fun c_53 => ?_) (fun c_53 => ?_)
        · refine lv_iinc (v := nI ((m1 + 1) + 1)) (lv' := [(6, .int (nI ((m1 + 1) + 1))), (7, .int (q_gain T n ss i ow (m1 + 1))), (0, .ref hx0), (1, .int (nI i)), (2, .int (nI ow)), (3, .int (nI (n - pop8 ow - 1))), (4, .int (nI ((q_ba (q_gain T n ss i ow) m1).1))), (5, .int ((q_ba (q_gain T n ss i ow) m1).2))]) hx hb dX0_bestAhead_64 hl (k := 7) rfl (nI_add _ 1) (by decide) rfl (fun ls hl => ?_)
          refine lv_goto (tgt := 33) hx hb dX0_bestAhead_67 (by decide) ?_
          have hl : lv_has ls 8 [(6, .int (nI ((m1 + 1) + 1))), (7, .int (q_gain T n ss i ow (m1 + 1))), (0, .ref hx0), (1, .int (nI i)), (2, .int (nI ow)), (3, .int (nI (n - pop8 ow - 1))), (4, .int (nI ((q_ba (q_gain T n ss i ow) (m1 + 1)).1))), (5, .int ((q_ba (q_gain T n ss i ow) m1).2))] := by rw [← show nI ((q_ba (q_gain T n ss i ow) m1).1) = nI ((q_ba (q_gain T n ss i ow) (m1 + 1)).1) from by rw [q_baF (g := (q_gain T n ss i ow)) (d := m1) (Int32.not_lt.mpr c_53)]]; exact hl
          have hl : lv_has ls 8 [(6, .int (nI ((m1 + 1) + 1))), (7, .int (q_gain T n ss i ow (m1 + 1))), (0, .ref hx0), (1, .int (nI i)), (2, .int (nI ow)), (3, .int (nI (n - pop8 ow - 1))), (4, .int (nI ((q_ba (q_gain T n ss i ow) (m1 + 1)).1))), (5, .int ((q_ba (q_gain T n ss i ow) (m1 + 1)).2))] := by rw [← show (q_ba (q_gain T n ss i ow) m1).2 = (q_ba (q_gain T n ss i ow) (m1 + 1)).2 from by rw [q_baF (g := (q_gain T n ss i ow)) (d := m1) (Int32.not_lt.mpr c_53)]]; exact hl
          exact ih33 (m1 + 1) (by first | assumption | exact Nat.zero_le _ | omega) (by omega) ls (lv_sub hl [2, 3, 4, 5, 6, 7, 0] rfl)
        · refine lv_iload hx hb dX0_bestAhead_56 (lv_at hl 0 rfl) ?_
          refine lv_istore (lv' := [(5, .int (q_gain T n ss i ow (m1 + 1))), (7, .int (q_gain T n ss i ow (m1 + 1))), (0, .ref hx0), (1, .int (nI i)), (2, .int (nI ow)), (3, .int (nI (n - pop8 ow - 1))), (4, .int (nI ((q_ba (q_gain T n ss i ow) m1).1))), (6, .int (nI (m1 + 1)))]) hx hb dX0_bestAhead_58 hl (by decide) rfl (fun ls hl => ?_)
          refine lv_iload hx hb dX0_bestAhead_60 (lv_at hl 7 rfl) ?_
          refine lv_istore (lv' := [(4, .int (nI (m1 + 1))), (5, .int (q_gain T n ss i ow (m1 + 1))), (7, .int (q_gain T n ss i ow (m1 + 1))), (0, .ref hx0), (1, .int (nI i)), (2, .int (nI ow)), (3, .int (nI (n - pop8 ow - 1))), (6, .int (nI (m1 + 1)))]) hx hb dX0_bestAhead_62 hl (by decide) rfl (fun ls hl => ?_)
          refine lv_iinc (v := nI ((m1 + 1) + 1)) (lv' := [(6, .int (nI ((m1 + 1) + 1))), (4, .int (nI (m1 + 1))), (5, .int (q_gain T n ss i ow (m1 + 1))), (7, .int (q_gain T n ss i ow (m1 + 1))), (0, .ref hx0), (1, .int (nI i)), (2, .int (nI ow)), (3, .int (nI (n - pop8 ow - 1)))]) hx hb dX0_bestAhead_64 hl (k := 7) rfl (nI_add _ 1) (by decide) rfl (fun ls hl => ?_)
          refine lv_goto (tgt := 33) hx hb dX0_bestAhead_67 (by decide) ?_
          have hl : lv_has ls 8 [(6, .int (nI ((m1 + 1) + 1))), (4, .int (nI ((q_ba (q_gain T n ss i ow) (m1 + 1)).1))), (5, .int (q_gain T n ss i ow (m1 + 1))), (7, .int (q_gain T n ss i ow (m1 + 1))), (0, .ref hx0), (1, .int (nI i)), (2, .int (nI ow)), (3, .int (nI (n - pop8 ow - 1)))] := by rw [← show nI (m1 + 1) = nI ((q_ba (q_gain T n ss i ow) (m1 + 1)).1) from by rw [q_baT (g := (q_gain T n ss i ow)) (d := m1) (Int32.not_le.mp c_53)]]; exact hl
          have hl : lv_has ls 8 [(6, .int (nI ((m1 + 1) + 1))), (4, .int (nI ((q_ba (q_gain T n ss i ow) (m1 + 1)).1))), (5, .int ((q_ba (q_gain T n ss i ow) (m1 + 1)).2)), (7, .int (q_gain T n ss i ow (m1 + 1))), (0, .ref hx0), (1, .int (nI i)), (2, .int (nI ow)), (3, .int (nI (n - pop8 ow - 1)))] := by rw [← show q_gain T n ss i ow (m1 + 1) = (q_ba (q_gain T n ss i ow) (m1 + 1)).2 from by rw [q_baT (g := (q_gain T n ss i ow)) (d := m1) (Int32.not_le.mp c_53)]]; exact hl
          exact ih33 (m1 + 1) (by first | assumption | exact Nat.zero_le _ | omega) (by omega) ls (lv_sub hl [4, 5, 6, 7, 1, 2, 0] rfl)
  refine lv_aload_n hx hb dX0_bestAhead_0 rfl (lv_at hl 0 rfl) ?_
  refine q_get (ci := 0) (CC := RX0) (T := TX0) (N := 1) (v := .ref hm) hx hb hts hin0 hown hK hP 0 rfl rfl 0 (by decide) (hts (.fieldLink RX0 9 "DearAsMany$Counsel" "market" "LDearAsMany$Market;") (by decide +kernel)) rfl rfl dX0_bestAhead_1 ?_
  refine q_get (ci := 3) (CC := RX3) (T := TX3) (N := 2) (v := .ref hp) hx hb hts hin3 hown hK hP 1 rfl rfl 0 (by decide) (hts (.fieldLink RX0 15 "DearAsMany$Market" "people" "LDearAsMany$People;") (by decide +kernel)) rfl rfl dX0_bestAhead_4 ?_
  refine q_get (ci := 4) (CC := RX4) (T := TX4) (N := 4) (v := .int (nI n)) hx hb hts hin4 hown hK hP 2 rfl rfl 1 (by decide) (hts (.fieldLink RX0 21 "DearAsMany$People" "size" "I") (by decide +kernel)) rfl rfl dX0_bestAhead_7 ?_
  refine lv_iload_n hx hb dX0_bestAhead_10 rfl (lv_at hl 2 rfl) ?_
  refine q_si (As := [.int (nI ow)]) (rest := [.int (nI n)]) ⟨hx, hb, hml, hown, hts⟩ (c_J6_bitCount_0f7a4 l (D := D) (cI := cI) (cB := cB) (cZ := cZ) (k := ow) (by omega)) (va_cwS 1 hts gX0_bestAhead_J6_bitCount_0f7a4 rfl rfl rfl (by decide +kernel) ⟨Nat.le_of_ble_eq_true rfl, Nat.le_of_ble_eq_true rfl⟩) hK hP [] rfl rfl hl.1 rfl (Nat.le_of_ble_eq_true rfl) dX0_bestAhead_11 ⟨Nat.zero_le _, Nat.zero_le _⟩ (fun r_11 hr_11 => ?_)
  have hr_11 : nI (pop8 ow) = r_11 := (show r_11 = nI (pop8 ow) from hr_11).symm
  subst hr_11
  refine q_isub (v := nI (n - pop8 ow)) hx hb dX0_bestAhead_14 (q_sub (by omega)) ?_
  refine lv_iconst (v := nI 1) hx hb dX0_bestAhead_15 (by decide) ?_
  refine q_isub (v := nI (n - pop8 ow - 1)) hx hb dX0_bestAhead_16 (q_sub (by omega)) ?_
  refine lv_istore_n (lv' := [(3, .int (nI (n - pop8 ow - 1))), (0, .ref hx0), (1, .int (nI i)), (2, .int (nI ow))]) hx hb dX0_bestAhead_17 rfl hl (by decide) rfl (fun ls hl => ?_)
  refine lv_iconst (v := nI 0) hx hb dX0_bestAhead_18 (by decide) ?_
  refine lv_istore (lv' := [(4, .int (nI 0)), (3, .int (nI (n - pop8 ow - 1))), (0, .ref hx0), (1, .int (nI i)), (2, .int (nI ow))]) hx hb dX0_bestAhead_19 hl (by decide) rfl (fun ls hl => ?_)
  refine lv_aload_n hx hb dX0_bestAhead_21 rfl (lv_at hl 2 rfl) ?_
  refine lv_iload_n hx hb dX0_bestAhead_22 rfl (lv_at hl 3 rfl) ?_
  refine lv_iconst (v := nI 0) hx hb dX0_bestAhead_23 (by decide) ?_
  refine lv_iload_n hx hb dX0_bestAhead_24 rfl (lv_at hl 4 rfl) ?_
  refine q_vi (As := [.int (nI i), .int (nI 0), .int (nI ow)]) (rest := []) ⟨hx, hb, hml, hown, hts⟩ (c_X0_gainBehind l (D := D) (cI := cI) (cB := cB) (cZ := cZ) (hx0 := hx0) (hm := hm) (hp := hp) (hh := hh) (ht := ht) (n := n) (fo := fo) (ss := ss) (tr := tr) (hom := hom) (T := T) (i := i) (k := 0) (ow := ow) (by first | assumption | exact Nat.zero_le _ | omega) (by first | assumption | exact Nat.zero_le _ | omega) (by first | assumption | exact Nat.zero_le _ | omega) (by first | assumption | exact Nat.zero_le _ | omega) (by first | assumption | exact Nat.zero_le _ | omega) (by decide)) (cwV 3 hts gX0_bestAhead_X0_gainBehind rfl rfl rfl (by decide +kernel) ⟨Nat.le_of_ble_eq_true rfl, Nat.le_of_ble_eq_true rfl⟩) hK hP [0, 1, 2, 3, 4] rfl 0 0 rfl rfl rfl rfl hl.1 rfl (Nat.le_of_ble_eq_true rfl) dX0_bestAhead_25 ⟨Nat.zero_le _, Nat.zero_le _⟩ (fun r_25 hr_25 => ?_)
  have hr_25 : q_gain T n ss i ow 0 = r_25 := (show r_25 = q_gain T n ss i ow 0 from hr_25).symm
  subst hr_25
  refine lv_istore (lv' := [(5, .int (q_gain T n ss i ow 0)), (4, .int (nI 0)), (3, .int (nI (n - pop8 ow - 1))), (0, .ref hx0), (1, .int (nI i)), (2, .int (nI ow))]) hx hb dX0_bestAhead_28 hl (by decide) rfl (fun ls hl => ?_)
  refine lv_iconst (v := nI 1) hx hb dX0_bestAhead_30 (by decide) ?_
  refine lv_istore (lv' := [(6, .int (nI 1)), (5, .int (q_gain T n ss i ow 0)), (4, .int (nI 0)), (3, .int (nI (n - pop8 ow - 1))), (0, .ref hx0), (1, .int (nI i)), (2, .int (nI ow))]) hx hb dX0_bestAhead_31 hl (by decide) rfl (fun ls hl => ?_)
  exact L33 _ 0 (Nat.zero_le _) (Nat.lt_succ_self _) ls (lv_sub hl [4, 5, 6, 3, 2, 1, 0] rfl)

set_option maxHeartbeats 4000000 in
set_option maxRecDepth 100000 in
/-- BURN -/
theorem c_X0_leastBurnt (l : Launch) {D : va_G} {cI cB cZ : ClassId} {hx0 : Nat} {hm : Nat} {hp : Nat} {hh : Nat} {ht : Nat} {n : Nat} {fo : Int32} {ss : Int32} {tr : Nat → Int32} {hom : Nat → Int32} {T : Nat → Nat → Nat} {i : Nat} {ow : Nat} (hT : q_Tr T n tr) (hB : q_Bd T n) (hH : q_Hm T n hom) (hi : i < n) (how : ow < 2 ^ n) : Met l yX0_leastBurnt wsX0_leastBurnt ({ frames := 3, cells := 0, slots := 0, locals := 71 } : Room) (va_Pc [.ref hx0, .int (nI i), .int (nI ow)] (q_B D (q_tys cI cB cZ) [(hx0, .inr (0, [.ref hm])), (hm, .inr (3, [.ref hp, .ref hh])), (hp, .inr (4, [.ref ht, .int (nI n), .int fo, .int ss])), (ht, .inl (cI, 35, .inl tr)), (hh, .inl (cI, 128, .inl hom))])) (vp_Si (fun r => r = q_oc (q_min (q_bn T n ss i ow) (ow + 1)))) 0 0 (fun _ => False) := by
  refine Met.ofW (cc := cX0_leastBurnt) (maxL := 8) (ret := (some .int)) (by decide) rfl ?_
  intro p e s m args below meth c s₁ B hml hv
  obtain ⟨rfl, hP, hK⟩ := hv
  have hx := B.exec
  have hb := B.bytes
  have hr := B.returns
  have hts := atoms_spec (ws := wsX0_leastBurnt) B.pre
  have hown : s.vm.findClass RX0 = some m.cls := findClass_of_methodNamed B.named
  have hlocks := B.notSynchronized
  have hin0 : ∀ w ∈ u_ws RX0 TX0 1, w ∈ wsX0_leastBurnt := by decide +kernel
  have hin3 : ∀ w ∈ u_ws RX3 TX3 2, w ∈ wsX0_leastBurnt := by decide +kernel
  have hin4 : ∀ w ∈ u_ws RX4 TX4 4, w ∈ wsX0_leastBurnt := by decide +kernel
  have hP : va_P D vwCl [(hx0, .inr (0, [.ref hm])), (hm, .inr (3, [.ref hp, .ref hh])), (hp, .inr (4, [.ref ht, .int (nI n), .int fo, .int ss])), (ht, .inl (cI, 35, .inl tr)), (hh, .inl (cI, 128, .inl hom))] s.heap := hP
  have hl := lv_entry ([.ref hx0, .int (nI i), .int (nI ow)]) (n := 8) (Nat.le_of_ble_eq_true rfl)
  rw [lg_entry_eq]
  generalize (lg_sl ([.ref hx0, .int (nI i), .int (nI ow)]) ++ List.replicate (8 - (lg_sl ([.ref hx0, .int (nI i), .int (nI ow)])).length) Slot.unset).toArray = ls at hl ⊢
  have hl : lv_has ls 8 [(0, .ref hx0), (1, .int (nI i)), (2, .int (nI ow))] := hl
  have hn7 := hB.1
  have hp2 : 2 ^ n ≤ 128 := q_p2 hB.1
  have L10 : ∀ (fuel : Nat) (sv : Nat) (hs : sv ≤ ow + 1) (hf : ow + 1 - sv < fuel) (ls : Array Slot) (hl : lv_has ls 8 [(0, .ref hx0), (1, .int (nI i)), (2, .int (nI ow)), (3, .int (q_oc (q_min (q_bn T n ss i ow) sv))), (4, .int (nI (q_fw (q_min (q_bn T n ss i ow) sv)))), (5, .int (nI sv))]), W p l e (headSpec wsX0_leastBurnt ({ frames := 3, cells := 0, slots := 0, locals := 71 } : Room)).room s m ([.ref hx0, .int (nI i), .int (nI ow)] : List Value).toArray below meth c s.heap [] 0 0 (MQ below (vp_Si (fun r => r = q_oc (q_min (q_bn T n ss i ow) (ow + 1)))) ([.ref hx0, .int (nI i), .int (nI ow)] : List Value).toArray s 0 0 (fun _ => False)) (F0 m 10 ls []) := by
    intro fuel
    induction fuel with
    | zero =>
      intro sv hs hf ls hl
      exact absurd hf (Nat.not_lt_zero _)
    | succ fuel ih10 =>
      intro sv hs hf ls hl
      refine lv_iload hx hb dX0_leastBurnt_10 (lv_at hl 5 rfl) ?_
      refine lv_iload_n hx hb dX0_leastBurnt_12 rfl (lv_at hl 2 rfl) ?_
      refine q_ngt (tgt := 91) hx hb dX0_leastBurnt_13 (by decide) (by omega) (by omega) (fun c_13 => ?_) (fun c_13 => ?_)
      · refine lv_iload_n hx hb dX0_leastBurnt_91 rfl (lv_at hl 3 rfl) ?_
        exact q_zret (v := q_oc (q_min (q_bn T n ss i ow) sv)) hx hb hr hlocks (rfl) (show q_oc (q_min (q_bn T n ss i ow) sv) = q_oc (q_min (q_bn T n ss i ow) (ow + 1)) from by rw [show sv = ow + 1 from by omega]) dX0_leastBurnt_92
      · refine lv_iload hx hb dX0_leastBurnt_16 (lv_at hl 5 rfl) ?_
        refine q_si (As := [.int (nI sv)]) (rest := []) ⟨hx, hb, hml, hown, hts⟩ (c_J6_bitCount_0f7a4 l (D := D) (cI := cI) (cB := cB) (cZ := cZ) (k := sv) (by omega)) (va_cwS 1 hts gX0_leastBurnt_J6_bitCount_0f7a4 rfl rfl rfl (by decide +kernel) ⟨Nat.le_of_ble_eq_true rfl, Nat.le_of_ble_eq_true rfl⟩) hK hP [] rfl rfl hl.1 rfl (Nat.le_of_ble_eq_true rfl) dX0_leastBurnt_18 ⟨Nat.zero_le _, Nat.zero_le _⟩ (fun r_18 hr_18 => ?_)
        have hr_18 : nI (pop8 sv) = r_18 := (show r_18 = nI (pop8 sv) from hr_18).symm
        subst hr_18
        refine lv_istore (lv' := [(6, .int (nI (pop8 sv))), (0, .ref hx0), (1, .int (nI i)), (2, .int (nI ow)), (3, .int (q_oc (q_min (q_bn T n ss i ow) sv))), (4, .int (nI (q_fw (q_min (q_bn T n ss i ow) sv)))), (5, .int (nI sv))]) hx hb dX0_leastBurnt_21 hl (by decide) rfl (fun ls hl => ?_)
        refine lv_iload hx hb dX0_leastBurnt_23 (lv_at hl 6 rfl) ?_
        refine lv_iload_n hx hb dX0_leastBurnt_25 rfl (lv_at hl 3 rfl) ?_
        refine lv_iconst (v := (-1 : Int32)) hx hb dX0_leastBurnt_26 (by decide) ?_
        refine q_ixor (v := (nI ow) ^^^ (-1 : Int32)) hx hb dX0_leastBurnt_27 (rfl) ?_
        refine q_iand (v := nI (q_nd sv ow)) hx hb dX0_leastBurnt_28 (q_ndI (by omega) (by omega)) ?_
        refine q_zne (tgt := 36) hx hb dX0_leastBurnt_29 (by decide) (by have := q_nd_le sv ow; omega) (fun c_29 => ?_) (fun c_29 => ?_)
        · refine lv_iconst (v := nI 0) hx hb dX0_leastBurnt_36 (by decide) ?_
          refine lv_istore (lv' := [(7, .int (nI 0)), (6, .int (nI (pop8 sv))), (0, .ref hx0), (1, .int (nI i)), (2, .int (nI ow)), (3, .int (q_oc (q_min (q_bn T n ss i ow) sv))), (4, .int (nI (q_fw (q_min (q_bn T n ss i ow) sv)))), (5, .int (nI sv))]) hx hb dX0_leastBurnt_37 hl (by decide) rfl (fun ls hl => ?_)
          refine lv_iload hx hb dX0_leastBurnt_39 (lv_at hl 0 rfl) ?_
          refine q_zeq (tgt := 85) hx hb dX0_leastBurnt_41 (by decide) (by omega) (fun c_41 => ?_) (fun c_41 => ?_)
          · refine lv_iinc (v := nI (sv + 1)) (lv' := [(5, .int (nI (sv + 1))), (7, .int (nI 0)), (6, .int (nI (pop8 sv))), (0, .ref hx0), (1, .int (nI i)), (2, .int (nI ow)), (3, .int (q_oc (q_min (q_bn T n ss i ow) sv))), (4, .int (nI (q_fw (q_min (q_bn T n ss i ow) sv))))]) hx hb dX0_leastBurnt_85 hl (k := 7) rfl (nI_add _ 1) (by decide) rfl (fun ls hl => ?_)
            refine lv_goto (tgt := 10) hx hb dX0_leastBurnt_88 (by decide) ?_
            have hl : lv_has ls 8 [(5, .int (nI (sv + 1))), (7, .int (nI 0)), (6, .int (nI (pop8 sv))), (0, .ref hx0), (1, .int (nI i)), (2, .int (nI ow)), (3, .int (q_oc (q_min (q_bn T n ss i ow) (sv + 1)))), (4, .int (nI (q_fw (q_min (q_bn T n ss i ow) sv))))] := by rw [← show q_oc (q_min (q_bn T n ss i ow) sv) = q_oc (q_min (q_bn T n ss i ow) (sv + 1)) from by rw [q_minF (P := (q_bn T n ss i ow)) (s := sv) (q_bnG c_29)]]; exact hl
            have hl : lv_has ls 8 [(5, .int (nI (sv + 1))), (7, .int (nI 0)), (6, .int (nI (pop8 sv))), (0, .ref hx0), (1, .int (nI i)), (2, .int (nI ow)), (3, .int (q_oc (q_min (q_bn T n ss i ow) (sv + 1)))), (4, .int (nI (q_fw (q_min (q_bn T n ss i ow) (sv + 1)))))] := by rw [← show nI (q_fw (q_min (q_bn T n ss i ow) sv)) = nI (q_fw (q_min (q_bn T n ss i ow) (sv + 1))) from by rw [q_minF (P := (q_bn T n ss i ow)) (s := sv) (q_bnG c_29)]]; exact hl
            exact ih10 (sv + 1) (by first | assumption | exact Nat.zero_le _ | omega) (by omega) ls (lv_sub hl [3, 4, 5, 6, 7, 0] rfl)
          · exact absurd c_41 (by decide)
        · refine lv_iconst (v := nI 1) hx hb dX0_leastBurnt_32 (by decide) ?_
          refine lv_goto (tgt := 37) hx hb dX0_leastBurnt_33 (by decide) ?_
          refine lv_istore (lv' := [(7, .int (nI 1)), (6, .int (nI (pop8 sv))), (0, .ref hx0), (1, .int (nI i)), (2, .int (nI ow)), (3, .int (q_oc (q_min (q_bn T n ss i ow) sv))), (4, .int (nI (q_fw (q_min (q_bn T n ss i ow) sv)))), (5, .int (nI sv))]) hx hb dX0_leastBurnt_37 hl (by decide) rfl (fun ls hl => ?_)
          refine lv_iload hx hb dX0_leastBurnt_39 (lv_at hl 0 rfl) ?_
          refine q_zeq (tgt := 85) hx hb dX0_leastBurnt_41 (by decide) (by omega) (fun c_41 => ?_) (fun c_41 => ?_)
          · exact absurd c_41 (by decide)
          · refine lv_iload hx hb dX0_leastBurnt_44 (lv_at hl 1 rfl) ?_
            refine lv_iload hx hb dX0_leastBurnt_46 (lv_at hl 6 rfl) ?_
            refine q_nge (tgt := 85) hx hb dX0_leastBurnt_48 (by decide) (by have := pop8_le sv; omega) (by have := q_fw_le (q_min (q_bn T n ss i ow) sv); omega) (fun c_48 => ?_) (fun c_48 => ?_)
            · refine lv_iinc (v := nI (sv + 1)) (lv' := [(5, .int (nI (sv + 1))), (7, .int (nI 1)), (6, .int (nI (pop8 sv))), (0, .ref hx0), (1, .int (nI i)), (2, .int (nI ow)), (3, .int (q_oc (q_min (q_bn T n ss i ow) sv))), (4, .int (nI (q_fw (q_min (q_bn T n ss i ow) sv))))]) hx hb dX0_leastBurnt_85 hl (k := 7) rfl (nI_add _ 1) (by decide) rfl (fun ls hl => ?_)
              refine lv_goto (tgt := 10) hx hb dX0_leastBurnt_88 (by decide) ?_
              have hl : lv_has ls 8 [(5, .int (nI (sv + 1))), (7, .int (nI 1)), (6, .int (nI (pop8 sv))), (0, .ref hx0), (1, .int (nI i)), (2, .int (nI ow)), (3, .int (q_oc (q_min (q_bn T n ss i ow) (sv + 1)))), (4, .int (nI (q_fw (q_min (q_bn T n ss i ow) sv))))] := by rw [← show q_oc (q_min (q_bn T n ss i ow) sv) = q_oc (q_min (q_bn T n ss i ow) (sv + 1)) from by rw [q_minG (by omega) (Nat.not_lt.mpr c_48)]]; exact hl
              have hl : lv_has ls 8 [(5, .int (nI (sv + 1))), (7, .int (nI 1)), (6, .int (nI (pop8 sv))), (0, .ref hx0), (1, .int (nI i)), (2, .int (nI ow)), (3, .int (q_oc (q_min (q_bn T n ss i ow) (sv + 1)))), (4, .int (nI (q_fw (q_min (q_bn T n ss i ow) (sv + 1)))))] := by rw [← show nI (q_fw (q_min (q_bn T n ss i ow) sv)) = nI (q_fw (q_min (q_bn T n ss i ow) (sv + 1))) from by rw [q_minG (by omega) (Nat.not_lt.mpr c_48)]]; exact hl
              exact ih10 (sv + 1) (by first | assumption | exact Nat.zero_le _ | omega) (by omega) ls (lv_sub hl [3, 4, 5, 6, 7, 0] rfl)
            · refine lv_aload_n hx hb dX0_leastBurnt_51 rfl (lv_at hl 2 rfl) ?_
              refine q_get (ci := 0) (CC := RX0) (T := TX0) (N := 1) (v := .ref hm) hx hb hts hin0 hown hK hP 0 rfl rfl 0 (by decide) (hts (.fieldLink RX0 9 "DearAsMany$Counsel" "market" "LDearAsMany$Market;") (by decide +kernel)) rfl rfl dX0_leastBurnt_52 ?_
              refine lv_iload_n hx hb dX0_leastBurnt_55 rfl (lv_at hl 3 rfl) ?_
              refine lv_iload_n hx hb dX0_leastBurnt_56 rfl (lv_at hl 4 rfl) ?_
              refine lv_iload hx hb dX0_leastBurnt_57 (lv_at hl 7 rfl) ?_
              refine lv_iconst (v := (-1 : Int32)) hx hb dX0_leastBurnt_59 (by decide) ?_
              refine q_ixor (v := (nI sv) ^^^ (-1 : Int32)) hx hb dX0_leastBurnt_60 (rfl) ?_
              refine q_iand (v := nI (q_nd ow sv)) hx hb dX0_leastBurnt_61 (q_ndI (by omega) (by omega)) ?_
              refine lv_aload_n hx hb dX0_leastBurnt_62 rfl (lv_at hl 2 rfl) ?_
              refine q_get (ci := 0) (CC := RX0) (T := TX0) (N := 1) (v := .ref hm) hx hb hts hin0 hown hK hP 0 rfl rfl 0 (by decide) (hts (.fieldLink RX0 9 "DearAsMany$Counsel" "market" "LDearAsMany$Market;") (by decide +kernel)) rfl rfl dX0_leastBurnt_63 ?_
              refine q_get (ci := 3) (CC := RX3) (T := TX3) (N := 2) (v := .ref hp) hx hb hts hin3 hown hK hP 1 rfl rfl 0 (by decide) (hts (.fieldLink RX0 15 "DearAsMany$Market" "people" "LDearAsMany$People;") (by decide +kernel)) rfl rfl dX0_leastBurnt_66 ?_
              refine q_get (ci := 4) (CC := RX4) (T := TX4) (N := 4) (v := .int ss) hx hb hts hin4 hown hK hP 2 rfl rfl 3 (by decide) (hts (.fieldLink RX0 48 "DearAsMany$People" "season" "I") (by decide +kernel)) rfl rfl dX0_leastBurnt_69 ?_
              refine q_vi (As := [.int (nI i), .int (nI (q_nd ow sv)), .int ss]) (rest := []) ⟨hx, hb, hml, hown, hts⟩ (c_X3_wants l (D := D) (cI := cI) (cB := cB) (cZ := cZ) (hm := hm) (hp := hp) (hh := hh) (ht := ht) (n := n) (fo := fo) (ss := ss) (tr := tr) (hom := hom) (T := T) (i := i) (S := q_nd ow sv) (se := ss) (by first | assumption | exact Nat.zero_le _ | omega) (by first | assumption | exact Nat.zero_le _ | omega) (by first | assumption | exact Nat.zero_le _ | omega) (by first | assumption | exact Nat.zero_le _ | omega) (Nat.lt_of_le_of_lt (q_nd_le _ _) how)) (cwV 3 hts gX0_leastBurnt_X3_wants rfl rfl rfl (by decide +kernel) ⟨Nat.le_of_ble_eq_true rfl, Nat.le_of_ble_eq_true rfl⟩) hK hP [1, 2, 3, 4] rfl 1 3 rfl rfl rfl rfl hl.1 rfl (Nat.le_of_ble_eq_true rfl) dX0_leastBurnt_72 ⟨Nat.zero_le _, Nat.zero_le _⟩ (fun r_72 hr_72 => ?_)
              have hr_72 : bI (q_want T n ss i (q_nd ow sv)) = r_72 := (show r_72 = bI (q_want T n ss i (q_nd ow sv)) from hr_72).symm
              subst hr_72
              refine q_beq (tgt := 85) hx hb dX0_leastBurnt_75 (by decide) (fun c_75 => ?_) (fun c_75 => ?_)
              · refine lv_iinc (v := nI (sv + 1)) (lv' := [(5, .int (nI (sv + 1))), (7, .int (nI 1)), (6, .int (nI (pop8 sv))), (0, .ref hx0), (1, .int (nI i)), (2, .int (nI ow)), (3, .int (q_oc (q_min (q_bn T n ss i ow) sv))), (4, .int (nI (q_fw (q_min (q_bn T n ss i ow) sv))))]) hx hb dX0_leastBurnt_85 hl (k := 7) rfl (nI_add _ 1) (by decide) rfl (fun ls hl => ?_)
                refine lv_goto (tgt := 10) hx hb dX0_leastBurnt_88 (by decide) ?_
                have hl : lv_has ls 8 [(5, .int (nI (sv + 1))), (7, .int (nI 1)), (6, .int (nI (pop8 sv))), (0, .ref hx0), (1, .int (nI i)), (2, .int (nI ow)), (3, .int (q_oc (q_min (q_bn T n ss i ow) (sv + 1)))), (4, .int (nI (q_fw (q_min (q_bn T n ss i ow) sv))))] := by rw [← show q_oc (q_min (q_bn T n ss i ow) sv) = q_oc (q_min (q_bn T n ss i ow) (sv + 1)) from by rw [q_minF (P := (q_bn T n ss i ow)) (s := sv) (q_bnF c_75)]]; exact hl
                have hl : lv_has ls 8 [(5, .int (nI (sv + 1))), (7, .int (nI 1)), (6, .int (nI (pop8 sv))), (0, .ref hx0), (1, .int (nI i)), (2, .int (nI ow)), (3, .int (q_oc (q_min (q_bn T n ss i ow) (sv + 1)))), (4, .int (nI (q_fw (q_min (q_bn T n ss i ow) (sv + 1)))))] := by rw [← show nI (q_fw (q_min (q_bn T n ss i ow) sv)) = nI (q_fw (q_min (q_bn T n ss i ow) (sv + 1))) from by rw [q_minF (P := (q_bn T n ss i ow)) (s := sv) (q_bnF c_75)]]; exact hl
                exact ih10 (sv + 1) (by first | assumption | exact Nat.zero_le _ | omega) (by omega) ls (lv_sub hl [3, 4, 5, 6, 7, 0] rfl)
              · refine lv_iload hx hb dX0_leastBurnt_78 (lv_at hl 7 rfl) ?_
                refine lv_istore_n (lv' := [(3, .int (nI sv)), (7, .int (nI 1)), (6, .int (nI (pop8 sv))), (0, .ref hx0), (1, .int (nI i)), (2, .int (nI ow)), (4, .int (nI (q_fw (q_min (q_bn T n ss i ow) sv)))), (5, .int (nI sv))]) hx hb dX0_leastBurnt_80 rfl hl (by decide) rfl (fun ls hl => ?_)
                refine lv_iload hx hb dX0_leastBurnt_81 (lv_at hl 2 rfl) ?_
                refine lv_istore (lv' := [(4, .int (nI (pop8 sv))), (3, .int (nI sv)), (7, .int (nI 1)), (6, .int (nI (pop8 sv))), (0, .ref hx0), (1, .int (nI i)), (2, .int (nI ow)), (5, .int (nI sv))]) hx hb dX0_leastBurnt_83 hl (by decide) rfl (fun ls hl => ?_)
                refine lv_iinc (v := nI (sv + 1)) (lv' := [(5, .int (nI (sv + 1))), (4, .int (nI (pop8 sv))), (3, .int (nI sv)), (7, .int (nI 1)), (6, .int (nI (pop8 sv))), (0, .ref hx0), (1, .int (nI i)), (2, .int (nI ow))]) hx hb dX0_leastBurnt_85 hl (k := 7) rfl (nI_add _ 1) (by decide) rfl (fun ls hl => ?_)
                refine lv_goto (tgt := 10) hx hb dX0_leastBurnt_88 (by decide) ?_
                have hl : lv_has ls 8 [(5, .int (nI (sv + 1))), (4, .int (nI (pop8 sv))), (3, .int (q_oc (q_min (q_bn T n ss i ow) (sv + 1)))), (7, .int (nI 1)), (6, .int (nI (pop8 sv))), (0, .ref hx0), (1, .int (nI i)), (2, .int (nI ow))] := by rw [← show nI sv = q_oc (q_min (q_bn T n ss i ow) (sv + 1)) from by rw [q_minT (P := (q_bn T n ss i ow)) (s := sv) (by omega) (q_bnT c_29 c_75) (by omega)]; rfl]; exact hl
                have hl : lv_has ls 8 [(5, .int (nI (sv + 1))), (4, .int (nI (q_fw (q_min (q_bn T n ss i ow) (sv + 1))))), (3, .int (q_oc (q_min (q_bn T n ss i ow) (sv + 1)))), (7, .int (nI 1)), (6, .int (nI (pop8 sv))), (0, .ref hx0), (1, .int (nI i)), (2, .int (nI ow))] := by rw [← show nI (pop8 sv) = nI (q_fw (q_min (q_bn T n ss i ow) (sv + 1))) from by rw [q_minT (P := (q_bn T n ss i ow)) (s := sv) (by omega) (q_bnT c_29 c_75) (by omega)]; rfl]; exact hl
                exact ih10 (sv + 1) (by first | assumption | exact Nat.zero_le _ | omega) (by omega) ls (lv_sub hl [5, 6, 7, 2, 1, 0] rfl)
  refine lv_bipush (v := (-4 : Int32)) hx hb dX0_leastBurnt_0 (by decide) ?_
  refine lv_istore_n (lv' := [(3, .int (-4 : Int32)), (0, .ref hx0), (1, .int (nI i)), (2, .int (nI ow))]) hx hb dX0_leastBurnt_2 rfl hl (by decide) rfl (fun ls hl => ?_)
  refine lv_bipush (v := nI 8) hx hb dX0_leastBurnt_3 (by decide) ?_
  refine lv_istore (lv' := [(4, .int (nI 8)), (3, .int (-4 : Int32)), (0, .ref hx0), (1, .int (nI i)), (2, .int (nI ow))]) hx hb dX0_leastBurnt_5 hl (by decide) rfl (fun ls hl => ?_)
  refine lv_iconst (v := nI 0) hx hb dX0_leastBurnt_7 (by decide) ?_
  refine lv_istore (lv' := [(5, .int (nI 0)), (4, .int (nI 8)), (3, .int (-4 : Int32)), (0, .ref hx0), (1, .int (nI i)), (2, .int (nI ow))]) hx hb dX0_leastBurnt_8 hl (by decide) rfl (fun ls hl => ?_)
  exact L10 _ 0 (Nat.zero_le _) (Nat.lt_succ_self _) ls (lv_sub hl [3, 4, 5, 2, 1, 0] rfl)

set_option maxHeartbeats 4000000 in
set_option maxRecDepth 100000 in
theorem c_X0_gainTogether (l : Launch) {D : va_G} {cI cB cZ : ClassId} {hx0 : Nat} {hm : Nat} {hp : Nat} {hh : Nat} {ht : Nat} {n : Nat} {fo : Int32} {ss : Int32} {tr : Nat → Int32} {hom : Nat → Int32} {T : Nat → Nat → Nat} {i : Nat} {j : Nat} {ow : Nat} (hT : q_Tr T n tr) (hB : q_Bd T n) (hH : q_Hm T n hom) (hi : i < n) (hj : j < n) (how : ow < 2 ^ n) : Met l yX0_gainTogether wsX0_gainTogether ({ frames := 2, cells := 0, slots := 0, locals := 47 } : Room) (va_Pc [.ref hx0, .int (nI i), .int (nI j), .int (nI ow)] (q_B D (q_tys cI cB cZ) [(hx0, .inr (0, [.ref hm])), (hm, .inr (3, [.ref hp, .ref hh])), (hp, .inr (4, [.ref ht, .int (nI n), .int fo, .int ss])), (ht, .inl (cI, 35, .inl tr)), (hh, .inl (cI, 128, .inl hom))])) (vp_Si (fun r => r = q_gt T n ss ow i j)) 0 0 (fun _ => False) := by
  refine Met.ofW (cc := cX0_gainTogether) (maxL := 6) (ret := (some .int)) (by decide) rfl ?_
  intro p e s m args below meth c s₁ B hml hv
  obtain ⟨rfl, hP, hK⟩ := hv
  have hx := B.exec
  have hb := B.bytes
  have hr := B.returns
  have hts := atoms_spec (ws := wsX0_gainTogether) B.pre
  have hown : s.vm.findClass RX0 = some m.cls := findClass_of_methodNamed B.named
  have hlocks := B.notSynchronized
  have hin0 : ∀ w ∈ u_ws RX0 TX0 1, w ∈ wsX0_gainTogether := by decide +kernel
  have hin3 : ∀ w ∈ u_ws RX3 TX3 2, w ∈ wsX0_gainTogether := by decide +kernel
  have hin4 : ∀ w ∈ u_ws RX4 TX4 4, w ∈ wsX0_gainTogether := by decide +kernel
  have hP : va_P D vwCl [(hx0, .inr (0, [.ref hm])), (hm, .inr (3, [.ref hp, .ref hh])), (hp, .inr (4, [.ref ht, .int (nI n), .int fo, .int ss])), (ht, .inl (cI, 35, .inl tr)), (hh, .inl (cI, 128, .inl hom))] s.heap := hP
  have hl := lv_entry ([.ref hx0, .int (nI i), .int (nI j), .int (nI ow)]) (n := 6) (Nat.le_of_ble_eq_true rfl)
  rw [lg_entry_eq]
  generalize (lg_sl ([.ref hx0, .int (nI i), .int (nI j), .int (nI ow)]) ++ List.replicate (6 - (lg_sl ([.ref hx0, .int (nI i), .int (nI j), .int (nI ow)])).length) Slot.unset).toArray = ls at hl ⊢
  have hl : lv_has ls 6 [(0, .ref hx0), (1, .int (nI i)), (2, .int (nI j)), (3, .int (nI ow))] := hl
  refine lv_aload_n hx hb dX0_gainTogether_0 rfl (lv_at hl 0 rfl) ?_
  refine q_get (ci := 0) (CC := RX0) (T := TX0) (N := 1) (v := .ref hm) hx hb hts hin0 hown hK hP 0 rfl rfl 0 (by decide) (hts (.fieldLink RX0 9 "DearAsMany$Counsel" "market" "LDearAsMany$Market;") (by decide +kernel)) rfl rfl dX0_gainTogether_1 ?_
  refine q_get (ci := 3) (CC := RX3) (T := TX3) (N := 2) (v := .ref hp) hx hb hts hin3 hown hK hP 1 rfl rfl 0 (by decide) (hts (.fieldLink RX0 15 "DearAsMany$Market" "people" "LDearAsMany$People;") (by decide +kernel)) rfl rfl dX0_gainTogether_4 ?_
  refine q_get (ci := 4) (CC := RX4) (T := TX4) (N := 4) (v := .int ss) hx hb hts hin4 hown hK hP 2 rfl rfl 3 (by decide) (hts (.fieldLink RX0 48 "DearAsMany$People" "season" "I") (by decide +kernel)) rfl rfl dX0_gainTogether_7 ?_
  refine lv_istore (lv' := [(4, .int ss), (0, .ref hx0), (1, .int (nI i)), (2, .int (nI j)), (3, .int (nI ow))]) hx hb dX0_gainTogether_10 hl (by decide) rfl (fun ls hl => ?_)
  refine lv_aload_n hx hb dX0_gainTogether_12 rfl (lv_at hl 1 rfl) ?_
  refine q_get (ci := 0) (CC := RX0) (T := TX0) (N := 1) (v := .ref hm) hx hb hts hin0 hown hK hP 0 rfl rfl 0 (by decide) (hts (.fieldLink RX0 9 "DearAsMany$Counsel" "market" "LDearAsMany$Market;") (by decide +kernel)) rfl rfl dX0_gainTogether_13 ?_
  refine lv_iload_n hx hb dX0_gainTogether_16 rfl (lv_at hl 2 rfl) ?_
  refine lv_iload_n hx hb dX0_gainTogether_17 rfl (lv_at hl 4 rfl) ?_
  refine q_vi (As := [.int (nI i), .int (nI ow)]) (rest := []) ⟨hx, hb, hml, hown, hts⟩ (c_X3_othersOf l (D := D) (cI := cI) (cB := cB) (cZ := cZ) (hm := hm) (hp := hp) (hh := hh) (ht := ht) (n := n) (fo := fo) (ss := ss) (tr := tr) (hom := hom) (T := T) (i := i) (S := ow) (by first | assumption | exact Nat.zero_le _ | omega) (by first | assumption | exact Nat.zero_le _ | omega) (by first | assumption | exact Nat.zero_le _ | omega) (by first | assumption | exact Nat.zero_le _ | omega) (how)) (cwV 2 hts gX0_gainTogether_X3_othersOf rfl rfl rfl (by decide +kernel) ⟨Nat.le_of_ble_eq_true rfl, Nat.le_of_ble_eq_true rfl⟩) hK hP [1, 2, 3, 4] rfl 1 3 rfl rfl rfl rfl hl.1 rfl (Nat.le_of_ble_eq_true rfl) dX0_gainTogether_18 ⟨Nat.zero_le _, Nat.zero_le _⟩ (fun r_18 hr_18 => ?_)
  have hr_18 : nI (q_oth T n i ow) = r_18 := (show r_18 = nI (q_oth T n i ow) from hr_18).symm
  subst hr_18
  refine lv_istore (lv' := [(5, .int (nI (q_oth T n i ow))), (4, .int ss), (0, .ref hx0), (1, .int (nI i)), (2, .int (nI j)), (3, .int (nI ow))]) hx hb dX0_gainTogether_21 hl (by decide) rfl (fun ls hl => ?_)
  refine lv_aload_n hx hb dX0_gainTogether_23 rfl (lv_at hl 2 rfl) ?_
  refine q_get (ci := 0) (CC := RX0) (T := TX0) (N := 1) (v := .ref hm) hx hb hts hin0 hown hK hP 0 rfl rfl 0 (by decide) (hts (.fieldLink RX0 9 "DearAsMany$Counsel" "market" "LDearAsMany$Market;") (by decide +kernel)) rfl rfl dX0_gainTogether_24 ?_
  refine lv_iload_n hx hb dX0_gainTogether_27 rfl (lv_at hl 3 rfl) ?_
  refine lv_iload hx hb dX0_gainTogether_28 (lv_at hl 0 rfl) ?_
  refine lv_iload hx hb dX0_gainTogether_30 (lv_at hl 1 rfl) ?_
  refine q_vi (As := [.int (nI i), .int (nI (q_oth T n i ow)), .int ss]) (rest := []) ⟨hx, hb, hml, hown, hts⟩ (c_X3_valueWith l (D := D) (cI := cI) (cB := cB) (cZ := cZ) (hm := hm) (hp := hp) (hh := hh) (ht := ht) (n := n) (fo := fo) (ss := ss) (tr := tr) (hom := hom) (T := T) (i := i) (o := q_oth T n i ow) (se := ss) (by first | assumption | exact Nat.zero_le _ | omega) (by first | assumption | exact Nat.zero_le _ | omega) (by first | assumption | exact Nat.zero_le _ | omega) (by first | assumption | exact Nat.zero_le _ | omega) (q_oth_le _ _ _ _)) (cwV 3 hts gX0_gainTogether_X3_valueWith rfl rfl rfl (by decide +kernel) ⟨Nat.le_of_ble_eq_true rfl, Nat.le_of_ble_eq_true rfl⟩) hK hP [1, 2, 3, 4] rfl 1 3 rfl rfl rfl rfl hl.1 rfl (Nat.le_of_ble_eq_true rfl) dX0_gainTogether_32 ⟨Nat.zero_le _, Nat.zero_le _⟩ (fun r_32 hr_32 => ?_)
  have hr_32 : q_wby (T i 0) (nI (T i 1) + (ss - nI 50)) (T i 2) (q_oth T n i ow) = r_32 := (show r_32 = q_wby (T i 0) (nI (T i 1) + (ss - nI 50)) (T i 2) (q_oth T n i ow) from hr_32).symm
  subst hr_32
  refine lv_aload_n hx hb dX0_gainTogether_35 rfl (lv_at hl 2 rfl) ?_
  refine q_get (ci := 0) (CC := RX0) (T := TX0) (N := 1) (v := .ref hm) hx hb hts hin0 hown hK hP 0 rfl rfl 0 (by decide) (hts (.fieldLink RX0 9 "DearAsMany$Counsel" "market" "LDearAsMany$Market;") (by decide +kernel)) rfl rfl dX0_gainTogether_36 ?_
  refine lv_iload_n hx hb dX0_gainTogether_39 rfl (lv_at hl 4 rfl) ?_
  refine lv_iload hx hb dX0_gainTogether_40 (lv_at hl 0 rfl) ?_
  refine lv_iload hx hb dX0_gainTogether_42 (lv_at hl 1 rfl) ?_
  refine q_vi (As := [.int (nI j), .int (nI (q_oth T n i ow)), .int ss]) (rest := [.int (q_wby (T i 0) (nI (T i 1) + (ss - nI 50)) (T i 2) (q_oth T n i ow))]) ⟨hx, hb, hml, hown, hts⟩ (c_X3_valueWith l (D := D) (cI := cI) (cB := cB) (cZ := cZ) (hm := hm) (hp := hp) (hh := hh) (ht := ht) (n := n) (fo := fo) (ss := ss) (tr := tr) (hom := hom) (T := T) (i := j) (o := q_oth T n i ow) (se := ss) (by first | assumption | exact Nat.zero_le _ | omega) (by first | assumption | exact Nat.zero_le _ | omega) (by first | assumption | exact Nat.zero_le _ | omega) (hj) (q_oth_le _ _ _ _)) (cwV 3 hts gX0_gainTogether_X3_valueWith rfl rfl rfl (by decide +kernel) ⟨Nat.le_of_ble_eq_true rfl, Nat.le_of_ble_eq_true rfl⟩) hK hP [1, 2, 3, 4] rfl 1 3 rfl rfl rfl rfl hl.1 rfl (Nat.le_of_ble_eq_true rfl) dX0_gainTogether_44 ⟨Nat.zero_le _, Nat.zero_le _⟩ (fun r_44 hr_44 => ?_)
  have hr_44 : q_wby (T j 0) (nI (T j 1) + (ss - nI 50)) (T j 2) (q_oth T n i ow) = r_44 := (show r_44 = q_wby (T j 0) (nI (T j 1) + (ss - nI 50)) (T j 2) (q_oth T n i ow) from hr_44).symm
  subst hr_44
  refine q_iadd (v := (q_wby (T i 0) (nI (T i 1) + (ss - nI 50)) (T i 2) (q_oth T n i ow)) + (q_wby (T j 0) (nI (T j 1) + (ss - nI 50)) (T j 2) (q_oth T n i ow))) hx hb dX0_gainTogether_47 (rfl) ?_
  refine lv_iload hx hb dX0_gainTogether_48 (lv_at hl 0 rfl) ?_
  refine q_isub (v := ((q_wby (T i 0) (nI (T i 1) + (ss - nI 50)) (T i 2) (q_oth T n i ow)) + (q_wby (T j 0) (nI (T j 1) + (ss - nI 50)) (T j 2) (q_oth T n i ow))) - (nI (q_oth T n i ow))) hx hb dX0_gainTogether_50 (rfl) ?_
  exact q_zret (v := ((q_wby (T i 0) (nI (T i 1) + (ss - nI 50)) (T i 2) (q_oth T n i ow)) + (q_wby (T j 0) (nI (T j 1) + (ss - nI 50)) (T j 2) (q_oth T n i ow))) - (nI (q_oth T n i ow))) hx hb hr hlocks (rfl) (show ((q_wby (T i 0) (nI (T i 1) + (ss - nI 50)) (T i 2) (q_oth T n i ow)) + (q_wby (T j 0) (nI (T j 1) + (ss - nI 50)) (T j 2) (q_oth T n i ow))) - (nI (q_oth T n i ow)) = q_gt T n ss ow i j from rfl) dX0_gainTogether_51

set_option maxHeartbeats 4000000 in
set_option maxRecDepth 100000 in
/-- SHARE -/
theorem c_X0_bestPair (l : Launch) {D : va_G} {cI cB cZ : ClassId} {hx0 : Nat} {hm : Nat} {hp : Nat} {hh : Nat} {ht : Nat} {n : Nat} {fo : Int32} {ss : Int32} {tr : Nat → Int32} {hom : Nat → Int32} {T : Nat → Nat → Nat} {ow : Nat} (hT : q_Tr T n tr) (hB : q_Bd T n) (hH : q_Hm T n hom) (how : ow < 2 ^ n) : Met l yX0_bestPair wsX0_bestPair ({ frames := 3, cells := 0, slots := 0, locals := 72 } : Room) (va_Pc [.ref hx0, .int (nI ow)] (q_B D (q_tys cI cB cZ) [(hx0, .inr (0, [.ref hm])), (hm, .inr (3, [.ref hp, .ref hh])), (hp, .inr (4, [.ref ht, .int (nI n), .int fo, .int ss])), (ht, .inl (cI, 35, .inl tr)), (hh, .inl (cI, 128, .inl hom))])) (vp_Si (fun r => r = (q_b1 (q_gv T n ss ow) n n 0 ((-4 : Int32), nI 0)).1)) 0 0 (fun _ => False) := by
  refine Met.ofW (cc := cX0_bestPair) (maxL := 7) (ret := (some .int)) (by decide) rfl ?_
  intro p e s m args below meth c s₁ B hml hv
  obtain ⟨rfl, hP, hK⟩ := hv
  have hx := B.exec
  have hb := B.bytes
  have hr := B.returns
  have hts := atoms_spec (ws := wsX0_bestPair) B.pre
  have hown : s.vm.findClass RX0 = some m.cls := findClass_of_methodNamed B.named
  have hlocks := B.notSynchronized
  have hin0 : ∀ w ∈ u_ws RX0 TX0 1, w ∈ wsX0_bestPair := by decide +kernel
  have hin3 : ∀ w ∈ u_ws RX3 TX3 2, w ∈ wsX0_bestPair := by decide +kernel
  have hin4 : ∀ w ∈ u_ws RX4 TX4 4, w ∈ wsX0_bestPair := by decide +kernel
  have hP : va_P D vwCl [(hx0, .inr (0, [.ref hm])), (hm, .inr (3, [.ref hp, .ref hh])), (hp, .inr (4, [.ref ht, .int (nI n), .int fo, .int ss])), (ht, .inl (cI, 35, .inl tr)), (hh, .inl (cI, 128, .inl hom))] s.heap := hP
  have hl := lv_entry ([.ref hx0, .int (nI ow)]) (n := 7) (Nat.le_of_ble_eq_true rfl)
  rw [lg_entry_eq]
  generalize (lg_sl ([.ref hx0, .int (nI ow)]) ++ List.replicate (7 - (lg_sl ([.ref hx0, .int (nI ow)])).length) Slot.unset).toArray = ls at hl ⊢
  have hl : lv_has ls 7 [(0, .ref hx0), (1, .int (nI ow))] := hl
  have hn7 := hB.1
  have hp2 : 2 ^ n ≤ 128 := q_p2 hB.1
  have L8 : ∀ (fuel : Nat) (k : Nat) (i : Nat) (bb : Int32) (mo : Int32) (hk : k + i = n) (hE : (q_b1 (q_gv T n ss ow) n n 0 ((-4 : Int32), nI 0)).1 = (q_b1 (q_gv T n ss ow) n k i (bb, mo)).1) (hf : k < fuel) (ls : Array Slot) (hl : lv_has ls 7 [(0, .ref hx0), (1, .int (nI ow)), (2, .int bb), (3, .int mo), (4, .int (nI i))]), W p l e (headSpec wsX0_bestPair ({ frames := 3, cells := 0, slots := 0, locals := 72 } : Room)).room s m ([.ref hx0, .int (nI ow)] : List Value).toArray below meth c s.heap [] 0 0 (MQ below (vp_Si (fun r => r = (q_b1 (q_gv T n ss ow) n n 0 ((-4 : Int32), nI 0)).1)) ([.ref hx0, .int (nI ow)] : List Value).toArray s 0 0 (fun _ => False)) (F0 m 8 ls []) := by
    intro fuel
    induction fuel with
    | zero =>
      intro k i bb mo hk hE hf ls hl
      exact absurd hf (Nat.not_lt_zero _)
    | succ fuel ih8 =>
      intro k i bb mo hk hE hf ls hl
      have L29 : ∀ (fuel : Nat) (kk : Nat) (k2 : Nat) (j : Nat) (b2 : Int32) (m2 : Int32) (hkk : k = kk + 1) (hk2 : k2 + j = n) (hij : i + 1 ≤ j) (hE2 : (q_b1 (q_gv T n ss ow) n n 0 ((-4 : Int32), nI 0)).1 = (q_b1 (q_gv T n ss ow) n kk (i + 1) (q_b2 (q_gv T n ss ow) i k2 j (b2, m2))).1) (hf : k2 < fuel) (ls : Array Slot) (hl : lv_has ls 7 [(0, .ref hx0), (1, .int (nI ow)), (2, .int b2), (3, .int m2), (4, .int (nI i)), (5, .int (nI j))]), W p l e (headSpec wsX0_bestPair ({ frames := 3, cells := 0, slots := 0, locals := 72 } : Room)).room s m ([.ref hx0, .int (nI ow)] : List Value).toArray below meth c s.heap [] 0 0 (MQ below (vp_Si (fun r => r = (q_b1 (q_gv T n ss ow) n n 0 ((-4 : Int32), nI 0)).1)) ([.ref hx0, .int (nI ow)] : List Value).toArray s 0 0 (fun _ => False)) (F0 m 29 ls []) := by
        intro fuel
        induction fuel with
        | zero =>
          intro kk k2 j b2 m2 hkk hk2 hij hE2 hf ls hl
          exact absurd hf (Nat.not_lt_zero _)
        | succ fuel ih29 =>
          intro kk k2 j b2 m2 hkk hk2 hij hE2 hf ls hl
          refine lv_iload hx hb dX0_bestPair_29 (lv_at hl 5 rfl) ?_
          refine lv_aload_n hx hb dX0_bestPair_31 rfl (lv_at hl 0 rfl) ?_
          refine q_get (ci := 0) (CC := RX0) (T := TX0) (N := 1) (v := .ref hm) hx hb hts hin0 hown hK hP 0 rfl rfl 0 (by decide) (hts (.fieldLink RX0 9 "DearAsMany$Counsel" "market" "LDearAsMany$Market;") (by decide +kernel)) rfl rfl dX0_bestPair_32 ?_
          refine q_get (ci := 3) (CC := RX3) (T := TX3) (N := 2) (v := .ref hp) hx hb hts hin3 hown hK hP 1 rfl rfl 0 (by decide) (hts (.fieldLink RX0 15 "DearAsMany$Market" "people" "LDearAsMany$People;") (by decide +kernel)) rfl rfl dX0_bestPair_35 ?_
          refine q_get (ci := 4) (CC := RX4) (T := TX4) (N := 4) (v := .int (nI n)) hx hb hts hin4 hown hK hP 2 rfl rfl 1 (by decide) (hts (.fieldLink RX0 21 "DearAsMany$People" "size" "I") (by decide +kernel)) rfl rfl dX0_bestPair_38 ?_
          refine q_nge (tgt := 101) hx hb dX0_bestPair_41 (by decide) (by omega) (by omega) (fun c_41 => ?_) (fun c_41 => ?_)
          · refine lv_iinc (v := nI (i + 1)) (lv' := [(4, .int (nI (i + 1))), (0, .ref hx0), (1, .int (nI ow)), (2, .int b2), (3, .int m2), (5, .int (nI j))]) hx hb dX0_bestPair_101 hl (k := 4) rfl (nI_add _ 1) (by decide) rfl (fun ls hl => ?_)
            refine lv_goto (tgt := 8) hx hb dX0_bestPair_104 (by decide) ?_
            exact ih8 kk (i + 1) b2 m2 (by omega) (by rw [hE2, show k2 = 0 from by omega]; rfl) (by omega) ls (lv_sub hl [1, 2, 3, 4, 0] rfl)
          · obtain ⟨k3, rfl⟩ : ∃ k3, k2 = k3 + 1 := ⟨k2 - 1, by omega⟩
            refine lv_iload_n hx hb dX0_bestPair_44 rfl (lv_at hl 1 rfl) ?_
            refine lv_iload hx hb dX0_bestPair_45 (lv_at hl 4 rfl) ?_
            refine q_ni (As := [.int (nI ow), .int (nI i)]) (rest := []) ⟨hx, hb, hml, hown, hts⟩ (c_X9_has l (D := D) (cI := cI) (cB := cB) (cZ := cZ) (S := ow) (i := i) (by omega) (by omega)) ⟨va_cnB 2 hts gX0_bestPair_X9_has_n37 rfl rfl rfl (hK.2.at 0 rfl) (hts (.initialized RX9) (by decide +kernel)) (by decide +kernel) ⟨Nat.le_of_ble_eq_true rfl, Nat.le_of_ble_eq_true rfl⟩, hts (.static yX9_has) (by decide +kernel), trivial⟩ hK hP [] rfl rfl hl.1 rfl (Nat.le_of_ble_eq_true rfl) dX0_bestPair_47 ⟨Nat.zero_le _, Nat.zero_le _⟩ (fun r_47 hr_47 => ?_)
            have hr_47 : bI (ow.testBit i) = r_47 := (show r_47 = bI (ow.testBit i) from hr_47).symm
            subst hr_47
            refine q_bne (tgt := 62) hx hb dX0_bestPair_50 (by decide) (fun c_50 => ?_) (fun c_50 => ?_)
            · refine lv_iconst (v := nI 0) hx hb dX0_bestPair_62 (by decide) ?_
              refine lv_goto (tgt := 75) hx hb dX0_bestPair_63 (by decide) ?_
              refine lv_istore (lv' := [(6, .int (nI 0)), (0, .ref hx0), (1, .int (nI ow)), (2, .int b2), (3, .int m2), (4, .int (nI i)), (5, .int (nI j))]) hx hb dX0_bestPair_75 hl (by decide) rfl (fun ls hl => ?_)
              refine lv_iload hx hb dX0_bestPair_77 (lv_at hl 0 rfl) ?_
              refine lv_iload_n hx hb dX0_bestPair_79 rfl (lv_at hl 4 rfl) ?_
              refine lv_icmp_le (x := nI 0) (y := m2) (tgt := 95) hx hb dX0_bestPair_80 (by decide) (fun c_80 => ?_) (fun c_80 => ?_)
              · refine lv_iinc (v := nI (j + 1)) (lv' := [(5, .int (nI (j + 1))), (6, .int (nI 0)), (0, .ref hx0), (1, .int (nI ow)), (2, .int b2), (3, .int m2), (4, .int (nI i))]) hx hb dX0_bestPair_95 hl (k := 6) rfl (nI_add _ 1) (by decide) rfl (fun ls hl => ?_)
                refine lv_goto (tgt := 29) hx hb dX0_bestPair_98 (by decide) ?_
                exact ih29 kk k3 (j + 1) b2 m2 (hkk) (by omega) (by omega) (by rw [hE2, q_b2, q_stF (g := (q_gv T n ss ow)) (if_pos (Or.inl c_50)) (Int32.not_lt.mpr c_80)]) (by omega) ls (lv_sub hl [2, 3, 4, 5, 6, 0] rfl)
              · refine lv_iload hx hb dX0_bestPair_83 (lv_at hl 0 rfl) ?_
                refine lv_istore_n (lv' := [(3, .int (nI 0)), (6, .int (nI 0)), (0, .ref hx0), (1, .int (nI ow)), (2, .int b2), (4, .int (nI i)), (5, .int (nI j))]) hx hb dX0_bestPair_85 rfl hl (by decide) rfl (fun ls hl => ?_)
                refine lv_bipush (v := nI 10) hx hb dX0_bestPair_86 (by decide) ?_
                refine lv_iload hx hb dX0_bestPair_88 (lv_at hl 5 rfl) ?_
                refine q_imul (v := nI (10 * i)) hx hb dX0_bestPair_90 (q_mul _ _) ?_
                refine lv_iload hx hb dX0_bestPair_91 (lv_at hl 6 rfl) ?_
                refine q_iadd (v := nI ((10 * i) + j)) hx hb dX0_bestPair_93 (nI_add _ _) ?_
                refine lv_istore_n (lv' := [(2, .int (nI ((10 * i) + j))), (3, .int (nI 0)), (6, .int (nI 0)), (0, .ref hx0), (1, .int (nI ow)), (4, .int (nI i)), (5, .int (nI j))]) hx hb dX0_bestPair_94 rfl hl (by decide) rfl (fun ls hl => ?_)
                refine lv_iinc (v := nI (j + 1)) (lv' := [(5, .int (nI (j + 1))), (2, .int (nI ((10 * i) + j))), (3, .int (nI 0)), (6, .int (nI 0)), (0, .ref hx0), (1, .int (nI ow)), (4, .int (nI i))]) hx hb dX0_bestPair_95 hl (k := 6) rfl (nI_add _ 1) (by decide) rfl (fun ls hl => ?_)
                refine lv_goto (tgt := 29) hx hb dX0_bestPair_98 (by decide) ?_
                exact ih29 kk k3 (j + 1) (nI ((10 * i) + j)) (nI 0) (hkk) (by omega) (by omega) (by rw [hE2, q_b2, q_stT (g := (q_gv T n ss ow)) (if_pos (Or.inl c_50)) (Int32.not_le.mp c_80)]) (by omega) ls (lv_sub hl [4, 5, 1, 2, 6, 0] rfl)
            · refine lv_iload_n hx hb dX0_bestPair_53 rfl (lv_at hl 1 rfl) ?_
              refine lv_iload hx hb dX0_bestPair_54 (lv_at hl 5 rfl) ?_
              refine q_ni (As := [.int (nI ow), .int (nI j)]) (rest := []) ⟨hx, hb, hml, hown, hts⟩ (c_X9_has l (D := D) (cI := cI) (cB := cB) (cZ := cZ) (S := ow) (i := j) (by omega) (by omega)) ⟨va_cnB 2 hts gX0_bestPair_X9_has_n37 rfl rfl rfl (hK.2.at 0 rfl) (hts (.initialized RX9) (by decide +kernel)) (by decide +kernel) ⟨Nat.le_of_ble_eq_true rfl, Nat.le_of_ble_eq_true rfl⟩, hts (.static yX9_has) (by decide +kernel), trivial⟩ hK hP [] rfl rfl hl.1 rfl (Nat.le_of_ble_eq_true rfl) dX0_bestPair_56 ⟨Nat.zero_le _, Nat.zero_le _⟩ (fun r_56 hr_56 => ?_)
              have hr_56 : bI (ow.testBit j) = r_56 := (show r_56 = bI (ow.testBit j) from hr_56).symm
              subst hr_56
              refine q_beq (tgt := 66) hx hb dX0_bestPair_59 (by decide) (fun c_59 => ?_) (fun c_59 => ?_)
              · refine lv_aload_n hx hb dX0_bestPair_66 rfl (lv_at hl 0 rfl) ?_
                refine lv_iload hx hb dX0_bestPair_67 (lv_at hl 4 rfl) ?_
                refine lv_iload hx hb dX0_bestPair_69 (lv_at hl 5 rfl) ?_
                refine lv_iload_n hx hb dX0_bestPair_71 rfl (lv_at hl 1 rfl) ?_
                refine q_vi (As := [.int (nI i), .int (nI j), .int (nI ow)]) (rest := []) ⟨hx, hb, hml, hown, hts⟩ (c_X0_gainTogether l (D := D) (cI := cI) (cB := cB) (cZ := cZ) (hx0 := hx0) (hm := hm) (hp := hp) (hh := hh) (ht := ht) (n := n) (fo := fo) (ss := ss) (tr := tr) (hom := hom) (T := T) (i := i) (j := j) (ow := ow) (by first | assumption | exact Nat.zero_le _ | omega) (by first | assumption | exact Nat.zero_le _ | omega) (by first | assumption | exact Nat.zero_le _ | omega) (by omega) (by omega) (by first | assumption | exact Nat.zero_le _ | omega)) (cwV 3 hts gX0_bestPair_X0_gainTogether rfl rfl rfl (by decide +kernel) ⟨Nat.le_of_ble_eq_true rfl, Nat.le_of_ble_eq_true rfl⟩) hK hP [0, 1, 2, 3, 4] rfl 0 0 rfl rfl rfl rfl hl.1 rfl (Nat.le_of_ble_eq_true rfl) dX0_bestPair_72 ⟨Nat.zero_le _, Nat.zero_le _⟩ (fun r_72 hr_72 => ?_)
                have hr_72 : q_gt T n ss ow i j = r_72 := (show r_72 = q_gt T n ss ow i j from hr_72).symm
                subst hr_72
                refine lv_istore (lv' := [(6, .int (q_gt T n ss ow i j)), (0, .ref hx0), (1, .int (nI ow)), (2, .int b2), (3, .int m2), (4, .int (nI i)), (5, .int (nI j))]) hx hb dX0_bestPair_75 hl (by decide) rfl (fun ls hl => ?_)
                refine lv_iload hx hb dX0_bestPair_77 (lv_at hl 0 rfl) ?_
                refine lv_iload_n hx hb dX0_bestPair_79 rfl (lv_at hl 4 rfl) ?_
                refine lv_icmp_le (x := q_gt T n ss ow i j) (y := m2) (tgt := 95) hx hb dX0_bestPair_80 (by decide) (fun c_80 => ?_) (fun c_80 => ?_)
                · refine lv_iinc (v := nI (j + 1)) (lv' := [(5, .int (nI (j + 1))), (6, .int (q_gt T n ss ow i j)), (0, .ref hx0), (1, .int (nI ow)), (2, .int b2), (3, .int m2), (4, .int (nI i))]) hx hb dX0_bestPair_95 hl (k := 6) rfl (nI_add _ 1) (by decide) rfl (fun ls hl => ?_)
                  refine lv_goto (tgt := 29) hx hb dX0_bestPair_98 (by decide) ?_
                  exact ih29 kk k3 (j + 1) b2 m2 (hkk) (by omega) (by omega) (by rw [hE2, q_b2, q_stF (g := (q_gv T n ss ow)) (if_neg (fun z => z.elim (fun w => by rw [c_50] at w; exact absurd w (by decide)) (fun w => by rw [c_59] at w; exact absurd w (by decide)))) (Int32.not_lt.mpr c_80)]) (by omega) ls (lv_sub hl [2, 3, 4, 5, 6, 0] rfl)
                · refine lv_iload hx hb dX0_bestPair_83 (lv_at hl 0 rfl) ?_
                  refine lv_istore_n (lv' := [(3, .int (q_gt T n ss ow i j)), (6, .int (q_gt T n ss ow i j)), (0, .ref hx0), (1, .int (nI ow)), (2, .int b2), (4, .int (nI i)), (5, .int (nI j))]) hx hb dX0_bestPair_85 rfl hl (by decide) rfl (fun ls hl => ?_)
                  refine lv_bipush (v := nI 10) hx hb dX0_bestPair_86 (by decide) ?_
                  refine lv_iload hx hb dX0_bestPair_88 (lv_at hl 5 rfl) ?_
                  refine q_imul (v := nI (10 * i)) hx hb dX0_bestPair_90 (q_mul _ _) ?_
                  refine lv_iload hx hb dX0_bestPair_91 (lv_at hl 6 rfl) ?_
                  refine q_iadd (v := nI ((10 * i) + j)) hx hb dX0_bestPair_93 (nI_add _ _) ?_
                  refine lv_istore_n (lv' := [(2, .int (nI ((10 * i) + j))), (3, .int (q_gt T n ss ow i j)), (6, .int (q_gt T n ss ow i j)), (0, .ref hx0), (1, .int (nI ow)), (4, .int (nI i)), (5, .int (nI j))]) hx hb dX0_bestPair_94 rfl hl (by decide) rfl (fun ls hl => ?_)
                  refine lv_iinc (v := nI (j + 1)) (lv' := [(5, .int (nI (j + 1))), (2, .int (nI ((10 * i) + j))), (3, .int (q_gt T n ss ow i j)), (6, .int (q_gt T n ss ow i j)), (0, .ref hx0), (1, .int (nI ow)), (4, .int (nI i))]) hx hb dX0_bestPair_95 hl (k := 6) rfl (nI_add _ 1) (by decide) rfl (fun ls hl => ?_)
                  refine lv_goto (tgt := 29) hx hb dX0_bestPair_98 (by decide) ?_
                  exact ih29 kk k3 (j + 1) (nI ((10 * i) + j)) (q_gt T n ss ow i j) (hkk) (by omega) (by omega) (by rw [hE2, q_b2, q_stT (g := (q_gv T n ss ow)) (if_neg (fun z => z.elim (fun w => by rw [c_50] at w; exact absurd w (by decide)) (fun w => by rw [c_59] at w; exact absurd w (by decide)))) (Int32.not_le.mp c_80)]) (by omega) ls (lv_sub hl [4, 5, 1, 2, 6, 0] rfl)
              · refine lv_iconst (v := nI 0) hx hb dX0_bestPair_62 (by decide) ?_
                refine lv_goto (tgt := 75) hx hb dX0_bestPair_63 (by decide) ?_
                refine lv_istore (lv' := [(6, .int (nI 0)), (0, .ref hx0), (1, .int (nI ow)), (2, .int b2), (3, .int m2), (4, .int (nI i)), (5, .int (nI j))]) hx hb dX0_bestPair_75 hl (by decide) rfl (fun ls hl => ?_)
                refine lv_iload hx hb dX0_bestPair_77 (lv_at hl 0 rfl) ?_
                refine lv_iload_n hx hb dX0_bestPair_79 rfl (lv_at hl 4 rfl) ?_
                refine lv_icmp_le (x := nI 0) (y := m2) (tgt := 95) hx hb dX0_bestPair_80 (by decide) (fun c_80 => ?_) (fun c_80 => ?_)
                · refine lv_iinc (v := nI (j + 1)) (lv' := [(5, .int (nI (j + 1))), (6, .int (nI 0)), (0, .ref hx0), (1, .int (nI ow)), (2, .int b2), (3, .int m2), (4, .int (nI i))]) hx hb dX0_bestPair_95 hl (k := 6) rfl (nI_add _ 1) (by decide) rfl (fun ls hl => ?_)
                  refine lv_goto (tgt := 29) hx hb dX0_bestPair_98 (by decide) ?_
                  exact ih29 kk k3 (j + 1) b2 m2 (hkk) (by omega) (by omega) (by rw [hE2, q_b2, q_stF (g := (q_gv T n ss ow)) (if_pos (Or.inr c_59)) (Int32.not_lt.mpr c_80)]) (by omega) ls (lv_sub hl [2, 3, 4, 5, 6, 0] rfl)
                · refine lv_iload hx hb dX0_bestPair_83 (lv_at hl 0 rfl) ?_
                  refine lv_istore_n (lv' := [(3, .int (nI 0)), (6, .int (nI 0)), (0, .ref hx0), (1, .int (nI ow)), (2, .int b2), (4, .int (nI i)), (5, .int (nI j))]) hx hb dX0_bestPair_85 rfl hl (by decide) rfl (fun ls hl => ?_)
                  refine lv_bipush (v := nI 10) hx hb dX0_bestPair_86 (by decide) ?_
                  refine lv_iload hx hb dX0_bestPair_88 (lv_at hl 5 rfl) ?_
                  refine q_imul (v := nI (10 * i)) hx hb dX0_bestPair_90 (q_mul _ _) ?_
                  refine lv_iload hx hb dX0_bestPair_91 (lv_at hl 6 rfl) ?_
                  refine q_iadd (v := nI ((10 * i) + j)) hx hb dX0_bestPair_93 (nI_add _ _) ?_
                  refine lv_istore_n (lv' := [(2, .int (nI ((10 * i) + j))), (3, .int (nI 0)), (6, .int (nI 0)), (0, .ref hx0), (1, .int (nI ow)), (4, .int (nI i)), (5, .int (nI j))]) hx hb dX0_bestPair_94 rfl hl (by decide) rfl (fun ls hl => ?_)
                  refine lv_iinc (v := nI (j + 1)) (lv' := [(5, .int (nI (j + 1))), (2, .int (nI ((10 * i) + j))), (3, .int (nI 0)), (6, .int (nI 0)), (0, .ref hx0), (1, .int (nI ow)), (4, .int (nI i))]) hx hb dX0_bestPair_95 hl (k := 6) rfl (nI_add _ 1) (by decide) rfl (fun ls hl => ?_)
                  refine lv_goto (tgt := 29) hx hb dX0_bestPair_98 (by decide) ?_
                  exact ih29 kk k3 (j + 1) (nI ((10 * i) + j)) (nI 0) (hkk) (by omega) (by omega) (by rw [hE2, q_b2, q_stT (g := (q_gv T n ss ow)) (if_pos (Or.inr c_59)) (Int32.not_le.mp c_80)]) (by omega) ls (lv_sub hl [4, 5, 1, 2, 6, 0] rfl)
      refine lv_iload hx hb dX0_bestPair_8 (lv_at hl 4 rfl) ?_
      refine lv_aload_n hx hb dX0_bestPair_10 rfl (lv_at hl 0 rfl) ?_
      refine q_get (ci := 0) (CC := RX0) (T := TX0) (N := 1) (v := .ref hm) hx hb hts hin0 hown hK hP 0 rfl rfl 0 (by decide) (hts (.fieldLink RX0 9 "DearAsMany$Counsel" "market" "LDearAsMany$Market;") (by decide +kernel)) rfl rfl dX0_bestPair_11 ?_
      refine q_get (ci := 3) (CC := RX3) (T := TX3) (N := 2) (v := .ref hp) hx hb hts hin3 hown hK hP 1 rfl rfl 0 (by decide) (hts (.fieldLink RX0 15 "DearAsMany$Market" "people" "LDearAsMany$People;") (by decide +kernel)) rfl rfl dX0_bestPair_14 ?_
      refine q_get (ci := 4) (CC := RX4) (T := TX4) (N := 4) (v := .int (nI n)) hx hb hts hin4 hown hK hP 2 rfl rfl 1 (by decide) (hts (.fieldLink RX0 21 "DearAsMany$People" "size" "I") (by decide +kernel)) rfl rfl dX0_bestPair_17 ?_
      refine q_nge (tgt := 107) hx hb dX0_bestPair_20 (by decide) (by omega) (by omega) (fun c_20 => ?_) (fun c_20 => ?_)
      · refine lv_iload_n hx hb dX0_bestPair_107 rfl (lv_at hl 2 rfl) ?_
        exact q_zret (v := bb) hx hb hr hlocks (rfl) (show bb = (q_b1 (q_gv T n ss ow) n n 0 ((-4 : Int32), nI 0)).1 from by rw [hE, show k = 0 from by omega]; rfl) dX0_bestPair_108
      · obtain ⟨kk, rfl⟩ : ∃ kk, k = kk + 1 := ⟨k - 1, by omega⟩
        rw [q_b1] at hE
        refine lv_iload hx hb dX0_bestPair_23 (lv_at hl 4 rfl) ?_
        refine lv_iconst (v := nI 1) hx hb dX0_bestPair_25 (by decide) ?_
        refine q_iadd (v := nI (i + 1)) hx hb dX0_bestPair_26 (nI_add _ _) ?_
        refine lv_istore (lv' := [(5, .int (nI (i + 1))), (0, .ref hx0), (1, .int (nI ow)), (2, .int bb), (3, .int mo), (4, .int (nI i))]) hx hb dX0_bestPair_27 hl (by decide) rfl (fun ls hl => ?_)
        exact L29 _ kk (n - (i + 1)) (i + 1) bb mo (by omega) (by omega) (Nat.le_refl _) (hE) (Nat.lt_succ_self _) ls (lv_sub hl [1, 2, 3, 4, 5, 0] rfl)
  refine lv_bipush (v := (-4 : Int32)) hx hb dX0_bestPair_0 (by decide) ?_
  refine lv_istore_n (lv' := [(2, .int (-4 : Int32)), (0, .ref hx0), (1, .int (nI ow))]) hx hb dX0_bestPair_2 rfl hl (by decide) rfl (fun ls hl => ?_)
  refine lv_iconst (v := nI 0) hx hb dX0_bestPair_3 (by decide) ?_
  refine lv_istore_n (lv' := [(3, .int (nI 0)), (2, .int (-4 : Int32)), (0, .ref hx0), (1, .int (nI ow))]) hx hb dX0_bestPair_4 rfl hl (by decide) rfl (fun ls hl => ?_)
  refine lv_iconst (v := nI 0) hx hb dX0_bestPair_5 (by decide) ?_
  refine lv_istore (lv' := [(4, .int (nI 0)), (3, .int (nI 0)), (2, .int (-4 : Int32)), (0, .ref hx0), (1, .int (nI ow))]) hx hb dX0_bestPair_6 hl (by decide) rfl (fun ls hl => ?_)
  exact L8 _ n 0 (-4 : Int32) (nI 0) (rfl) (rfl) (Nat.lt_succ_self _) ls (lv_sub hl [3, 4, 2, 1, 0] rfl)
