set_option maxHeartbeats 4000000 in
set_option maxRecDepth 100000 in
theorem law_loop {p : Program} {l : Launch} {e : Env} {s : State} {m : MethodId} {below : List Frame} {meth : Method} {c : Code} {b L : Nat} {xs : Nat → Int32} (C0 : lw_At p s m meth c b L xs) {D : va_G} {cI cB cZ : ClassId} (hK : q_K D (q_tys cI cB cZ) s) {A : Nat → Prop} (hA : ∀ q, s.heap.size ≤ q → A q) (hbA : ¬ A b) {xa ma tx tb rd rn tl tt hm hp ht hh hc ho hx0 hn hq un ur kp kr sg sp so sb mt mk mw mc mh mp mb me wp0 wo0 wb0 mr ml : Nat} (hL : L ≤ 2048) (hAs : ∀ q, A q → s.heap.size ≤ q) : ∀ (fuel i : Nat) (hf : L + 8 ≤ i + fuel) (hiL : i ≤ L + 4) (H : Heap) (locs : List Loc) (tn n ow uc kc sc : Nat) (ss pl sz fo0 ss0 fo at0 rm0 ro0 rs0 : Int32) (tby nu trt tr hom onw pn ur1 kr1 sP sO sB mT mK mW mC mH mP mB mE sP2 sO2 sB2 mR mL : Nat → Int32) (tf : Nat → Nat) (T : Nat → Nat → Nat) (P : Nat → Nat) (UO : Nat → Nat) (UQ : Nat → Nat → Nat) (KO : Nat → Nat) (KQ : Nat → Nat → Nat) (SP : Nat → Nat) (SO : Nat → Nat) (SB : Nat → Bool) (hTx : q_Tx tn tf tby) (hT : q_Tr T n tr) (hB : q_Bd T n) (hH : q_Hm T n hom) (how : ow < 2 ^ n) (hn1 : 1 ≤ n) (hPn : ∀ i, i < n → pn i = nI (P i)) (hU : q_Pi 8 n uc UO UQ ur1) (hKe : q_Pi 2 n kc KO KQ kr1) (hSg : q_Sg sc SP SO SB sP sO sB) (hTm : q_Tm tn tf mT) (hMT : q_MT T n mK mW mC mH) (hPm : ∀ i, i < n → mP i = nI (P i)) (hUm : q_Mi 8 n uc UO UQ mB) (hKm : q_Mi 2 n kc KO KQ mE) (hSm : q_Sg sc SP SO SB sP2 sO2 sB2) (hPb : ∀ i9, i9 < n → P i9 ≤ (99 + 2 * i)) (hUb : ∀ j9, j9 < uc → ∀ i9, i9 < n → UQ j9 i9 ≤ (99 + 2 * i)) (hKb : ∀ j9, j9 < kc → ∀ i9, i9 < n → KQ j9 i9 ≤ (99 + 2 * i)) (hP : va_P D vwCl (q_LW cI cB cZ xa ma tx tb rd rn tl tt hm hp ht hh hc ho hx0 hn hq un ur kp kr sg sp so sb mt mk mw mc mh mp mb me wp0 wo0 wb0 mr ml tn n ow uc kc sc ss pl sz fo0 ss0 fo at0 rm0 ro0 rs0 tby nu trt tr hom onw pn ur1 kr1 sP sO sB mT mK mW mC mH mP mB mE sP2 sO2 sB2 mR mL) H) (hD : va_D A (q_LW cI cB cZ xa ma tx tb rd rn tl tt hm hp ht hh hc ho hx0 hn hq un ur kp kr sg sp so sb mt mk mw mc mh mp mb me wp0 wo0 wb0 mr ml tn n ow uc kc sc ss pl sz fo0 ss0 fo at0 rm0 ro0 rs0 tby nu trt tr hom onw pn ur1 kr1 sP sO sB mT mK mW mC mH mP mB mE sP2 sO2 sB2 mR mL)) (hS : va_S A s.heap H locs) (ls : Array Slot) (hl : lv_has ls 4 [(0, .ref b), (1, .ref xa), (2, .ref ma), (3, .int (nI i))]), W p l e room_1 s m #[Value.ref b] below meth c H locs 38 1455 (lw_Z below #[Value.ref b] s) (F0 m 18 ls []) := by
  obtain ⟨hx, hb, hr, hml, hown0, hts0, hX, hbl, hlocks, hgv⟩ := id C0
  have hown : s.vm.findClass RL = some m.cls := hown0
  have hts : ∀ w ∈ wsL_law, w.before #[Value.ref b] s = true := fun w h => hts0 w (wsL_law_in w h)
  intro fuel
  induction fuel with
  | zero => intro i h1 h2; exact absurd h1 (by omega)
  | succ fuel ih =>
    intro i h1 h2 H locs tn n ow uc kc sc ss pl sz fo0 ss0 fo at0 rm0 ro0 rs0 tby nu trt tr hom onw pn ur1 kr1 sP sO sB mT mK mW mC mH mP mB mE sP2 sO2 sB2 mR mL tf T P UO UQ KO KQ SP SO SB hTx hT hB hH how hn1 hPn hU hKe hSg hTm hMT hPm hUm hKm hSm hPb hUb hKb hP hD hS ls hl
    refine lv_iload_n hx hb dL_law_18 rfl (lv_at hl 3 rfl) ?_
    refine lv_aload_n hx hb dL_law_19 rfl (lv_at hl 0 rfl) ?_
    refine va_slen hx hb hX hbl hbA hS dL_law_20 ?_
    refine lv_iconst (v := nI 4) hx hb dL_law_21 (by decide) ?_
    refine q_isub (v := nI L - nI 4) hx hb dL_law_22 (rfl) ?_
    refine lv_icmp_gt (x := nI i) (y := nI L - nI 4) (tgt := 910) hx hb dL_law_23 (by decide) (fun c_23 => ?_) (fun c_23 => ?_)
    · refine va_forget (fun q hq => hAs _ (hS.2.2 q hq)) ?_
      refine W.widen (k := 600000) (n := 7302250) (Nat.le_of_ble_eq_true rfl) (Nat.le_of_ble_eq_true rfl) ?_
      refine lv_iconst (v := 1) hx hb dL_law_910 (by decide) ?_
      exact lw_ret hx hb hr hlocks dL_law_911
    · have hi4 : i + 4 ≤ L := by
        have h3 : ¬ L < i + 4 := fun z => c_23 ((q_len hL (by omega)).mpr z)
        omega
      refine lv_aload_n hx hb dL_law_26 rfl (lv_at hl 0 rfl) ?_
      refine lv_iload_n hx hb dL_law_27 rfl (lv_at hl 3 rfl) ?_
      refine q_sld hx hb hX hbl hbA hS (k := i) (by omega) hL dL_law_28 ?_
      refine lv_bipush (v := nI 31) hx hb dL_law_29 (by decide) ?_
      refine q_iand (v := xs i &&& nI 31) hx hb dL_law_31 (rfl) ?_
      have kk : ∀ (H : Heap) (locs : List Loc) (tn n ow uc kc sc : Nat) (ss pl sz fo0 ss0 fo at0 rm0 ro0 rs0 : Int32) (tby nu trt tr hom onw pn ur1 kr1 sP sO sB mT mK mW mC mH mP mB mE sP2 sO2 sB2 mR mL : Nat → Int32) (tf : Nat → Nat) (T : Nat → Nat → Nat) (P : Nat → Nat) (UO : Nat → Nat) (UQ : Nat → Nat → Nat) (KO : Nat → Nat) (KQ : Nat → Nat → Nat) (SP : Nat → Nat) (SO : Nat → Nat) (SB : Nat → Bool) (hTx : q_Tx tn tf tby) (hT : q_Tr T n tr) (hB : q_Bd T n) (hH : q_Hm T n hom) (how : ow < 2 ^ n) (hn1 : 1 ≤ n) (hPn : ∀ i, i < n → pn i = nI (P i)) (hU : q_Pi 8 n uc UO UQ ur1) (hKe : q_Pi 2 n kc KO KQ kr1) (hSg : q_Sg sc SP SO SB sP sO sB) (hTm : q_Tm tn tf mT) (hMT : q_MT T n mK mW mC mH) (hPm : ∀ i, i < n → mP i = nI (P i)) (hUm : q_Mi 8 n uc UO UQ mB) (hKm : q_Mi 2 n kc KO KQ mE) (hSm : q_Sg sc SP SO SB sP2 sO2 sB2) (hPb : ∀ i9, i9 < n → P i9 ≤ (99 + 2 * i + 8)) (hUb : ∀ j9, j9 < uc → ∀ i9, i9 < n → UQ j9 i9 ≤ (99 + 2 * i + 8)) (hKb : ∀ j9, j9 < kc → ∀ i9, i9 < n → KQ j9 i9 ≤ (99 + 2 * i + 8)) (hP : va_P D vwCl (q_LW cI cB cZ xa ma tx tb rd rn tl tt hm hp ht hh hc ho hx0 hn hq un ur kp kr sg sp so sb mt mk mw mc mh mp mb me wp0 wo0 wb0 mr ml tn n ow uc kc sc ss pl sz fo0 ss0 fo at0 rm0 ro0 rs0 tby nu trt tr hom onw pn ur1 kr1 sP sO sB mT mK mW mC mH mP mB mE sP2 sO2 sB2 mR mL) H) (hD : va_D A (q_LW cI cB cZ xa ma tx tb rd rn tl tt hm hp ht hh hc ho hx0 hn hq un ur kp kr sg sp so sb mt mk mw mc mh mp mb me wp0 wo0 wb0 mr ml tn n ow uc kc sc ss pl sz fo0 ss0 fo at0 rm0 ro0 rs0 tby nu trt tr hom onw pn ur1 kr1 sP sO sB mT mK mW mC mH mP mB mE sP2 sO2 sB2 mR mL)) (hS : va_S A s.heap H locs), W p l e room_1 s m #[Value.ref b] below meth c H locs 38 1455 (lw_Z below #[Value.ref b] s) (F0 m 904 ls []) := fun H locs tn n ow uc kc sc ss pl sz fo0 ss0 fo at0 rm0 ro0 rs0 tby nu trt tr hom onw pn ur1 kr1 sP sO sB mT mK mW mC mH mP mB mE sP2 sO2 sB2 mR mL tf T P UO UQ KO KQ SP SO SB hTx hT hB hH how hn1 hPn hU hKe hSg hTm hMT hPm hUm hKm hSm hPb hUb hKb hP hD hS => by
        refine lv_iinc (v := nI (i + 4)) (lv' := [(3, .int (nI (i + 4))), (0, .ref b), (1, .ref xa), (2, .ref ma)]) hx hb dL_law_904 hl (k := 3) rfl (nI_add _ 4) (by decide) rfl (fun ls hl => ?_)
        refine lv_goto (tgt := 18) hx hb dL_law_907 (by decide) ?_
        have hbe : 99 + 2 * i + 8 = 99 + 2 * (i + 4) := by omega
        rw [hbe] at hPb hUb hKb
        exact ih (i + 4) (by omega) (by omega) H locs tn n ow uc kc sc ss pl sz fo0 ss0 fo at0 rm0 ro0 rs0 tby nu trt tr hom onw pn ur1 kr1 sP sO sB mT mK mW mC mH mP mB mE sP2 sO2 sB2 mR mL tf T P UO UQ KO KQ SP SO SB hTx hT hB hH how hn1 hPn hU hKe hSg hTm hMT hPm hUm hKm hSm hPb hUb hKb hP hD hS ls (lv_sub hl [1, 2, 3, 0] rfl)
      refine q_tsw (x := xs i &&& nI 31) (lo := 0) (hi := 25) (fun c_32 => ?_) (fun c_32a c_32b => ?_)
      · refine lv_tableOut (tgt := 904) hx hb dL_law_32 c_32 (by decide) ?_
        exact kk H locs tn n ow uc kc sc ss pl sz fo0 ss0 fo at0 rm0 ro0 rs0 tby nu trt tr hom onw pn ur1 kr1 sP sO sB mT mK mW mC mH mP mB mE sP2 sO2 sB2 mR mL tf T P UO UQ KO KQ SP SO SB hTx hT hB hH how hn1 hPn hU hKe hSg hTm hMT hPm hUm hKm hSm (fun j hj => Nat.le_add_right_of_le (hPb j hj)) (q_less8 hUb (Nat.le_refl _)) (q_less8 hKb (Nat.le_refl _)) hP hD hS
      · rcases (show (xs i &&& nI 31).toInt = 0 ∨ (xs i &&& nI 31).toInt = 1 ∨ (xs i &&& nI 31).toInt = 2 ∨ (xs i &&& nI 31).toInt = 3 ∨ (xs i &&& nI 31).toInt = 4 ∨ (xs i &&& nI 31).toInt = 5 ∨ (xs i &&& nI 31).toInt = 6 ∨ (xs i &&& nI 31).toInt = 7 ∨ (xs i &&& nI 31).toInt = 8 ∨ (xs i &&& nI 31).toInt = 9 ∨ (xs i &&& nI 31).toInt = 10 ∨ (xs i &&& nI 31).toInt = 11 ∨ (xs i &&& nI 31).toInt = 12 ∨ (xs i &&& nI 31).toInt = 13 ∨ (xs i &&& nI 31).toInt = 14 ∨ (xs i &&& nI 31).toInt = 15 ∨ (xs i &&& nI 31).toInt = 16 ∨ (xs i &&& nI 31).toInt = 17 ∨ (xs i &&& nI 31).toInt = 18 ∨ (xs i &&& nI 31).toInt = 19 ∨ (xs i &&& nI 31).toInt = 20 ∨ (xs i &&& nI 31).toInt = 21 ∨ (xs i &&& nI 31).toInt = 22 ∨ (xs i &&& nI 31).toInt = 23 ∨ (xs i &&& nI 31).toInt = 24 ∨ (xs i &&& nI 31).toInt = 25 from by omega) with c_32 | c_32 | c_32 | c_32 | c_32 | c_32 | c_32 | c_32 | c_32 | c_32 | c_32 | c_32 | c_32 | c_32 | c_32 | c_32 | c_32 | c_32 | c_32 | c_32 | c_32 | c_32 | c_32 | c_32 | c_32 | c_32
        · refine lv_tableIn (off := 120) (tgt := 152) hx hb dL_law_32 (by rw [c_32]; decide) (by rw [c_32]; decide) (by rw [c_32]; rfl) (by decide) ?_
          exact law_c0 (bd := 99 + 2 * i) C0 hK hA hbA hL hi4 ⟨by omega, by omega⟩ hTx hT hB hH how hn1 hPn hU hKe hSg hTm hMT hPm hUm hKm hSm hPb hUb hKb hP hD hS hl kk
        · refine lv_tableIn (off := 183) (tgt := 215) hx hb dL_law_32 (by rw [c_32]; decide) (by rw [c_32]; decide) (by rw [c_32]; rfl) (by decide) ?_
          exact law_c1 (bd := 99 + 2 * i) C0 hK hA hbA hL hi4 ⟨by omega, by omega⟩ hTx hT hB hH how hn1 hPn hU hKe hSg hTm hMT hPm hUm hKm hSm hPb hUb hKb hP hD hS hl kk
        · refine lv_tableIn (off := 196) (tgt := 228) hx hb dL_law_32 (by rw [c_32]; decide) (by rw [c_32]; decide) (by rw [c_32]; rfl) (by decide) ?_
          exact law_c2 (bd := 99 + 2 * i) C0 hK hA hbA hL hi4 ⟨by omega, by omega⟩ hTx hT hB hH how hn1 hPn hU hKe hSg hTm hMT hPm hUm hKm hSm hPb hUb hKb hP hD hS hl kk
        · refine lv_tableIn (off := 209) (tgt := 241) hx hb dL_law_32 (by rw [c_32]; decide) (by rw [c_32]; decide) (by rw [c_32]; rfl) (by decide) ?_
          exact law_c3 (bd := 99 + 2 * i) C0 hK hA hbA hL hi4 ⟨by omega, by omega⟩ hTx hT hB hH how hn1 hPn hU hKe hSg hTm hMT hPm hUm hKm hSm hPb hUb hKb hP hD hS hl kk
        · refine lv_tableIn (off := 222) (tgt := 254) hx hb dL_law_32 (by rw [c_32]; decide) (by rw [c_32]; decide) (by rw [c_32]; rfl) (by decide) ?_
          exact law_c4 (bd := 99 + 2 * i) C0 hK hA hbA hL hi4 ⟨by omega, by omega⟩ hTx hT hB hH how hn1 hPn hU hKe hSg hTm hMT hPm hUm hKm hSm hPb hUb hKb hP hD hS hl kk
        · refine lv_tableIn (off := 255) (tgt := 287) hx hb dL_law_32 (by rw [c_32]; decide) (by rw [c_32]; decide) (by rw [c_32]; rfl) (by decide) ?_
          exact law_c5 (bd := 99 + 2 * i) C0 hK hA hbA hL hi4 ⟨by omega, by omega⟩ hTx hT hB hH how hn1 hPn hU hKe hSg hTm hMT hPm hUm hKm hSm hPb hUb hKb hP hD hS hl kk
        · refine lv_tableIn (off := 288) (tgt := 320) hx hb dL_law_32 (by rw [c_32]; decide) (by rw [c_32]; decide) (by rw [c_32]; rfl) (by decide) ?_
          exact law_c6 (bd := 99 + 2 * i) C0 hK hA hbA hL hi4 ⟨by omega, by omega⟩ hTx hT hB hH how hn1 hPn hU hKe hSg hTm hMT hPm hUm hKm hSm hPb hUb hKb hP hD hS hl kk
        · refine lv_tableIn (off := 311) (tgt := 343) hx hb dL_law_32 (by rw [c_32]; decide) (by rw [c_32]; decide) (by rw [c_32]; rfl) (by decide) ?_
          exact law_c7 (bd := 99 + 2 * i) C0 hK hA hbA hL hi4 ⟨by omega, by omega⟩ hTx hT hB hH how hn1 hPn hU hKe hSg hTm hMT hPm hUm hKm hSm hPb hUb hKb hP hD hS hl kk
        · refine lv_tableIn (off := 334) (tgt := 366) hx hb dL_law_32 (by rw [c_32]; decide) (by rw [c_32]; decide) (by rw [c_32]; rfl) (by decide) ?_
          exact law_c8 (bd := 99 + 2 * i) C0 hK hA hbA hL hi4 ⟨by omega, by omega⟩ hTx hT hB hH how hn1 hPn hU hKe hSg hTm hMT hPm hUm hKm hSm hPb hUb hKb hP hD hS hl kk
        · refine lv_tableIn (off := 367) (tgt := 399) hx hb dL_law_32 (by rw [c_32]; decide) (by rw [c_32]; decide) (by rw [c_32]; rfl) (by decide) ?_
          exact law_c9 (bd := 99 + 2 * i) C0 hK hA hbA hL hi4 ⟨by omega, by omega⟩ hTx hT hB hH how hn1 hPn hU hKe hSg hTm hMT hPm hUm hKm hSm hPb hUb hKb hP hD hS hl kk
        · refine lv_tableIn (off := 380) (tgt := 412) hx hb dL_law_32 (by rw [c_32]; decide) (by rw [c_32]; decide) (by rw [c_32]; rfl) (by decide) ?_
          exact law_c10 (bd := 99 + 2 * i) C0 hK hA hbA hL hi4 ⟨by omega, by omega⟩ hTx hT hB hH how hn1 hPn hU hKe hSg hTm hMT hPm hUm hKm hSm hPb hUb hKb hP hD hS hl kk
        · refine lv_tableIn (off := 403) (tgt := 435) hx hb dL_law_32 (by rw [c_32]; decide) (by rw [c_32]; decide) (by rw [c_32]; rfl) (by decide) ?_
          exact law_c11 (bd := 99 + 2 * i) C0 hK hA hbA hL hi4 ⟨by omega, by omega⟩ hTx hT hB hH how hn1 hPn hU hKe hSg hTm hMT hPm hUm hKm hSm hPb hUb hKb hP hD hS hl kk
        · refine lv_tableIn (off := 426) (tgt := 458) hx hb dL_law_32 (by rw [c_32]; decide) (by rw [c_32]; decide) (by rw [c_32]; rfl) (by decide) ?_
          exact law_c12 (bd := 99 + 2 * i) C0 hK hA hbA hL hi4 ⟨by omega, by omega⟩ hTx hT hB hH how hn1 hPn hU hKe hSg hTm hMT hPm hUm hKm hSm hPb hUb hKb hP hD hS hl kk
        · refine lv_tableIn (off := 475) (tgt := 507) hx hb dL_law_32 (by rw [c_32]; decide) (by rw [c_32]; decide) (by rw [c_32]; rfl) (by decide) ?_
          exact law_c13 (bd := 99 + 2 * i) C0 hK hA hbA hL hi4 ⟨by omega, by omega⟩ hTx hT hB hH how hn1 hPn hU hKe hSg hTm hMT hPm hUm hKm hSm hPb hUb hKb hP hD hS hl kk
        · refine lv_tableIn (off := 524) (tgt := 556) hx hb dL_law_32 (by rw [c_32]; decide) (by rw [c_32]; decide) (by rw [c_32]; rfl) (by decide) ?_
          exact law_c14 (bd := 99 + 2 * i) C0 hK hA hbA hL hi4 ⟨by omega, by omega⟩ hTx hT hB hH how hn1 hPn hU hKe hSg hTm hMT hPm hUm hKm hSm hPb hUb hKb hP hD hS hl kk
        · refine lv_tableIn (off := 547) (tgt := 579) hx hb dL_law_32 (by rw [c_32]; decide) (by rw [c_32]; decide) (by rw [c_32]; rfl) (by decide) ?_
          exact law_c15 (bd := 99 + 2 * i) C0 hK hA hbA hL hi4 ⟨by omega, by omega⟩ hTx hT hB hH how hn1 hPn hU hKe hSg hTm hMT hPm hUm hKm hSm hPb hUb hKb hP hD hS hl kk
        · refine lv_tableIn (off := 606) (tgt := 638) hx hb dL_law_32 (by rw [c_32]; decide) (by rw [c_32]; decide) (by rw [c_32]; rfl) (by decide) ?_
          exact law_c16 (bd := 99 + 2 * i) C0 hK hA hbA hL hi4 ⟨by omega, by omega⟩ hTx hT hB hH how hn1 hPn hU hKe hSg hTm hMT hPm hUm hKm hSm hPb hUb hKb hP hD hS hl kk
        · refine lv_tableIn (off := 639) (tgt := 671) hx hb dL_law_32 (by rw [c_32]; decide) (by rw [c_32]; decide) (by rw [c_32]; rfl) (by decide) ?_
          exact law_c17 (bd := 99 + 2 * i) C0 hK hA hbA hL hi4 ⟨by omega, by omega⟩ hTx hT hB hH how hn1 hPn hU hKe hSg hTm hMT hPm hUm hKm hSm hPb hUb hKb hP hD hS hl kk
        · refine lv_tableIn (off := 662) (tgt := 694) hx hb dL_law_32 (by rw [c_32]; decide) (by rw [c_32]; decide) (by rw [c_32]; rfl) (by decide) ?_
          exact law_c18 (bd := 99 + 2 * i) C0 hK hA hbA hL hi4 ⟨by omega, by omega⟩ hTx hT hB hH how hn1 hPn hU hKe hSg hTm hMT hPm hUm hKm hSm hPb hUb hKb hP hD hS hl kk
        · refine lv_tableIn (off := 675) (tgt := 707) hx hb dL_law_32 (by rw [c_32]; decide) (by rw [c_32]; decide) (by rw [c_32]; rfl) (by decide) ?_
          exact law_c19 (bd := 99 + 2 * i) C0 hK hA hbA hL hi4 ⟨by omega, by omega⟩ hTx hT hB hH how hn1 hPn hU hKe hSg hTm hMT hPm hUm hKm hSm hPb hUb hKb hP hD hS hl kk
        · refine lv_tableIn (off := 734) (tgt := 766) hx hb dL_law_32 (by rw [c_32]; decide) (by rw [c_32]; decide) (by rw [c_32]; rfl) (by decide) ?_
          exact law_c20 (bd := 99 + 2 * i) C0 hK hA hbA hL hi4 ⟨by omega, by omega⟩ hTx hT hB hH how hn1 hPn hU hKe hSg hTm hMT hPm hUm hKm hSm hPb hUb hKb hP hD hS hl kk
        · refine lv_tableIn (off := 747) (tgt := 779) hx hb dL_law_32 (by rw [c_32]; decide) (by rw [c_32]; decide) (by rw [c_32]; rfl) (by decide) ?_
          exact law_c21 (bd := 99 + 2 * i) C0 hK hA hbA hL hi4 ⟨by omega, by omega⟩ hTx hT hB hH how hn1 hPn hU hKe hSg hTm hMT hPm hUm hKm hSm hPb hUb hKb hP hD hS hl kk
        · refine lv_tableIn (off := 780) (tgt := 812) hx hb dL_law_32 (by rw [c_32]; decide) (by rw [c_32]; decide) (by rw [c_32]; rfl) (by decide) ?_
          exact law_c22 (bd := 99 + 2 * i) C0 hK hA hbA hL hi4 ⟨by omega, by omega⟩ hTx hT hB hH how hn1 hPn hU hKe hSg hTm hMT hPm hUm hKm hSm hPb hUb hKb hP hD hS hl kk
        · refine lv_tableIn (off := 823) (tgt := 855) hx hb dL_law_32 (by rw [c_32]; decide) (by rw [c_32]; decide) (by rw [c_32]; rfl) (by decide) ?_
          exact law_c23 (bd := 99 + 2 * i) C0 hK hA hbA hL hi4 ⟨by omega, by omega⟩ hTx hT hB hH how hn1 hPn hU hKe hSg hTm hMT hPm hUm hKm hSm hPb hUb hKb hP hD hS hl kk
        · refine lv_tableIn (off := 836) (tgt := 868) hx hb dL_law_32 (by rw [c_32]; decide) (by rw [c_32]; decide) (by rw [c_32]; rfl) (by decide) ?_
          exact law_c24 (bd := 99 + 2 * i) C0 hK hA hbA hL hi4 ⟨by omega, by omega⟩ hTx hT hB hH how hn1 hPn hU hKe hSg hTm hMT hPm hUm hKm hSm hPb hUb hKb hP hD hS hl kk
        · refine lv_tableIn (off := 849) (tgt := 881) hx hb dL_law_32 (by rw [c_32]; decide) (by rw [c_32]; decide) (by rw [c_32]; rfl) (by decide) ?_
          exact law_c25 (bd := 99 + 2 * i) C0 hK hA hbA hL hi4 ⟨by omega, by omega⟩ hTx hT hB hH how hn1 hPn hU hKe hSg hTm hMT hPm hUm hKm hSm hPb hUb hKb hP hD hS hl kk
