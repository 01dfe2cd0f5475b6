/-! tools: what all contracts of this claim have in common -/
def q_NL : List (String × Nat × MethodName × String) := [(RX0, 37, yX9_has, "DearAsMany"), (RX0, 45, yX9_bit, "DearAsMany"), (RX1, 61, yX9_at, "DearAsMany"), (RX1, 65, yX9_put, "DearAsMany"), (RX2, 28, yX9_put, "DearAsMany"), (RX2, 32, yX9_has, "DearAsMany"), (RX2, 36, yX9_at, "DearAsMany"), (RX3, 11, yX4_init, "DearAsMany"), (RX3, 34, yX9_bit, "DearAsMany"), (RX3, 38, yX9_at, "DearAsMany"), (RX3, 42, yX9_put, "DearAsMany"), (RX3, 58, yX9_valueOf, "DearAsMany"), (RX3, 62, yX9_has, "DearAsMany"), (RX4, 25, yX9_put, "DearAsMany"), (RX4, 29, yX9_bit, "DearAsMany"), (RX4, 33, yX9_at, "DearAsMany"), (RX5, 28, yX9_put, "DearAsMany"), (RX5, 35, yX9_at, "DearAsMany"), (RX6, 41, yX9_at, "DearAsMany"), (RX6, 60, yX9_put, "DearAsMany"), (RX7, 26, yX9_put, "DearAsMany"), (RX7, 30, yX9_at, "DearAsMany"), (RX7, 40, yX9_valueOf, "DearAsMany"), (RX9, 9, yX8_init, "DearAsMany"), (RX9, 18, yX6_init, "DearAsMany"), (RX9, 25, yX4_init, "DearAsMany"), (RX9, 32, yX3_init, "DearAsMany"), (RX9, 55, yX2_init, "DearAsMany"), (RX9, 74, yX7_init, "DearAsMany")]
/-- the links among nest mates -/
def q_N (U : State) : Prop := ∀ x ∈ q_NL, va_Nw (.methodLinkNest x.1 x.2.1 x.2.2.1 x.2.2.2) U
theorem q_N.warm {s U : State} (hW : s.WarmedH U.vm) (h : q_N s) : q_N U := fun x hx => va_Nw.warmM hW (h x hx)
theorem q_N.same {u U : State} (hv : u.vm = U.vm) (h : q_N u) : q_N U := fun x hx => va_Nw.same rfl hv (h x hx)
theorem q_N.at {s : State} (h : q_N s) (k : Nat) {a : String} {i : Nat} {y : MethodName} {b : String} (hk : q_NL[k]? = some (a, i, y, b)) : va_Nw (.methodLinkNest a i y b) s := h (a, i, y, b) (List.mem_of_getElem? hk)
abbrev q_tys (cI cB cZ : ClassId) : List (ClassId × FieldType) := [(cI, .int), (cB, .byte), (cZ, .boolean)]
def q_K (D : va_G) (tys : List (ClassId × FieldType)) (U : State) : Prop := va_K D vwCl tys U ∧ q_N U
theorem q_K.warm {D : va_G} {tys : List (ClassId × FieldType)} {s U : State} (hW : s.WarmedH U.vm) (h : q_K D tys s) : q_K D tys U := ⟨va_K.moved hW.alike h.1, h.2.warm hW⟩
theorem q_K.same {D : va_G} {tys : List (ClassId × FieldType)} {u U : State} (hv : u.vm = U.vm) (h : q_K D tys u) : q_K D tys U := ⟨va_K.moved (by rw [hv]; exact Vm.Alike.refl U.vm) h.1, h.2.same hv⟩
/-- a pure method's start: its world, any heap -/
def q_B (D : va_G) (tys : List (ClassId × FieldType)) (wc : va_W) : State → Prop := fun U => va_P D vwCl wc U.heap ∧ q_K D tys U
/-- a writing method's start -/
def q_M (D : va_G) (tys : List (ClassId × FieldType)) (wc : va_W) (sz : Nat) : State → Prop := fun U => U.heap.size = sz ∧ va_P D vwCl wc U.heap ∧ q_K D tys U ∧ va_D (fun _ => True) wc
theorem q_Bb {D : va_G} {tys : List (ClassId × FieldType)} {wc : va_W} {av : List Value} : FrameBlind (va_Pc av (q_B D tys wc)) := fun a U g mk h => ⟨h.1, h.2.1, q_K.same (u := U) (U := U.calling g mk a) rfl h.2.2⟩
theorem q_Mb {D : va_G} {tys : List (ClassId × FieldType)} {wc : va_W} {sz : Nat} {av : List Value} : FrameBlind (va_Pc av (q_M D tys wc sz)) := fun a U g mk h => ⟨h.1, h.2.1, h.2.2.1, q_K.same (u := U) (U := U.calling g mk a) rfl h.2.2.2.1, h.2.2.2.2⟩
/-! a world with some of its cells anew -/
def q_repl : va_W → List Nat → va_W → va_W
  | w, i :: is, x :: xs => q_repl (w.set i x) is xs
  | w, _, _ => w
theorem q_repl_spec : ∀ (is : List Nat) (xs w : va_W) (k : Nat) (q : Nat × va_E), is.length = xs.length → (q_repl w is xs)[k]? = some q → q ∈ xs ∨ (k ∉ is ∧ w[k]? = some q)
  | [], [], w, k, q, _, h => Or.inr ⟨by simp, h⟩
  | [], _ :: _, _, _, _, hl, _ => by simp at hl
  | _ :: _, [], _, _, _, hl, _ => by simp at hl
  | i :: is, x :: xs, w, k, q, hl, h => by
    have h' : (q_repl (w.set i x) is xs)[k]? = some q := h
    rcases q_repl_spec is xs (w.set i x) k q (by simpa using hl) h' with h1 | ⟨h1, h2⟩
    · exact Or.inl (List.mem_cons_of_mem _ h1)
    · by_cases hk : k = i
      · subst hk
        have hlt : k < w.length := by have := (List.getElem?_eq_some_iff.mp h2).1; simpa using this
        rw [List.getElem?_set_self hlt] at h2
        cases h2
        exact Or.inl List.mem_cons_self
      · rw [List.getElem?_set_ne (Ne.symm hk)] at h2
        exact Or.inr ⟨by simp [hk, h1], h2⟩
theorem q_Dadr {A : Nat → Prop} {w w' : va_W} (h : w'.map Prod.fst = w.map Prod.fst) (hD : va_D A w) : va_D A w' := by
  have key : ∀ (k : Nat) (q : Nat × va_E), w'[k]? = some q → ∃ q0, w[k]? = some q0 ∧ q0.1 = q.1 := by
    intro k q hk
    have h1 : (w'.map Prod.fst)[k]? = some q.1 := by rw [List.getElem?_map, hk]; rfl
    rw [h, List.getElem?_map] at h1
    cases hw : w[k]? with
    | none => rw [hw] at h1; cases h1
    | some q0 => rw [hw] at h1; exact ⟨q0, rfl, Option.some.inj h1⟩
  refine ⟨fun i j x y hi hj hxy => ?_, fun k q hk => ?_⟩
  · obtain ⟨x0, h1, h2⟩ := key i x hi
    obtain ⟨y0, h3, h4⟩ := key j y hj
    exact hD.1 i j x0 y0 h1 h3 (h2.trans (hxy.trans h4.symm))
  · obtain ⟨q0, h1, h2⟩ := key k q hk
    rw [← h2]
    exact hD.2 k q0 h1
theorem q_join {A0 : Nat → Prop} {D : va_G} {cl : List vw_C} {w0 wc w1 : va_W} {H H1 : Heap} (hP : va_P D cl w0 H) (hD : va_D A0 w0) (is : List Nat) (hC : is.map (fun i => w0[i]?) = wc.map some) (hlen : is.length = w1.length)
    (hk : ∀ q : Nat, q < H.size → ¬ va_A wc H.size q → H1[q]? = H[q]?) (hP1 : va_P D cl w1 H1) : va_P D cl (q_repl w0 is w1) H1 := by
  intro k q hq
  rcases q_repl_spec is w1 w0 k q hlen hq with h | ⟨h1, h2⟩
  · obtain ⟨j, hj⟩ := List.getElem?_of_mem h
    exact hP1 j q hj
  · have hl := (hP k q h2).lt
    refine (hP k q h2).kept (hk q.1 hl fun h => ?_)
    rcases h with ⟨k2, e, h⟩ | h
    · have h3 : (is.map (fun i => w0[i]?))[k2]? = some (some (q.1, e)) := by rw [hC, List.getElem?_map, h]; rfl
      rw [List.getElem?_map] at h3
      cases hi : is[k2]? with
      | none => rw [hi] at h3; cases h3
      | some i =>
        rw [hi] at h3
        have h4 := Option.some.inj h3
        have h5 : i = k := hD.1 i k (q.1, e) q h4 h2 rfl
        subst h5
        exact h1 (List.mem_of_getElem? hi)
    · omega
section QT
variable {p : Program} {l : Launch} {e : Env} {R : Room} {s : State} {m : MethodId} {args : Array Value} {below : List Frame} {meth : Method} {c : Code} {H : Heap} {locs : List Loc} {cells slots : Nat} {Q : State → Prop}
variable {y : MethodName} {bytes cc : ByteArray} {maxL nL n index : Nat} {ret : Option FieldType} {ws : List Cond} {rm : Room} {Ts : List Cond} {own C host : String} {b : Addr} {As rest st0 : List Value} {pc : Nat} {ls : Array Slot} {D : va_G} {tys : List (ClassId × FieldType)} {w0 wc : va_W} {A0 : Nat → Prop} {H0 : Heap}
theorem q_callSi {post : Int32 → Prop} {a : Array Value} (hr : va_Run p l e R s m args below meth c H locs cells slots 0 0 (F0 m pc ls st0) rest (vp_Si post a) (fun _ => False))
    (kk : ∀ r : Int32, post r → W p l e R s m args below meth c H locs cells slots Q (F0 m (pc + 3) ls (.int r :: rest))) : W p l e R s m args below meth c H locs cells slots Q (F0 m pc ls st0) := by
  intro T hT X
  obtain ⟨v, st₀, t, T', L, h0, X', hL, e1, e2, ⟨r, hv, hp, hh⟩, st⟩ := hr T hT X
  cases hv
  obtain ⟨t2, a1, b1⟩ := kk r hp T' (by rw [e1, hh, h0]) (Stand.forget X' (fun q h => (hL q h).elim))
  exact ⟨t2, st t2 a1, b1⟩
/-- a pure call: virtual -/
theorem q_vi {post : Int32 → Prop} {qc : vw_C} {fs : List Value} (S : CallFix p m c cc nL s args Ts own) (hM : Met l y ws rm (va_Pc (.ref b :: As) (q_B D tys wc)) (vp_Si post) 0 0 (fun _ => False)) (cw : CallW R s args own C index y bytes maxL ret ws rm 0 0 n)
    (hK : q_K D tys s) (hP : va_P D vwCl w0 H) (is : List Nat) (hs : is.filterMap (fun i => w0[i]?) = wc) (q0 ci : Nat) (hc : vwCl[ci]? = some qc) (hCC : qc.1 = C) (he : w0[q0]? = some (b, .inr (ci, fs))) (hn : As.length = n) (hsize : ls.size = nL) (hst : st0 = As.reverse ++ .ref b :: rest) (hW : (rest.map fun v => v.category).sum ≤ 8) (hdg : decode cc pc = .ok (.invokevirtual index, 3)) (hcs : cells + 0 ≤ R.cells ∧ slots + 0 ≤ R.slots)
    (kk : ∀ r : Int32, post r → W p l e R s m args below meth c H locs cells slots Q (F0 m (pc + 3) ls (.int r :: rest))) : W p l e R s m args below meth c H locs cells slots Q (F0 m pc ls st0) :=
  q_callSi (va_runV (As := As) (rest := rest) S hM cw ⟨q_Bb, by subst hCC; exact va_recv hK.1 hP hc he, fun U hU hW => ⟨rfl, by rw [hU]; exact hP.sub is hs, hK.warm hW⟩⟩ rfl hn hsize hst (lv_room hW) hdg hcs) kk
/-- a pure call: a static method of the own kind -/
theorem q_si {post : Int32 → Prop} (S : CallFix p m c cc nL s args Ts own) (hM : Met l y ws rm (va_Pc As (q_B D tys wc)) (vp_Si post) 0 0 (fun _ => False)) (cw : CallB R s args own index y bytes maxL ret ws rm 0 0 n ∧ (Cond.static y).before args s = true)
    (hK : q_K D tys s) (hP : va_P D vwCl w0 H) (is : List Nat) (hs : is.filterMap (fun i => w0[i]?) = wc) (hn : As.length = n) (hsize : ls.size = nL) (hst : st0 = As.reverse ++ rest) (hW : (rest.map fun v => v.category).sum ≤ 8) (hdg : decode cc pc = .ok (.invokestatic index, 3)) (hcs : cells + 0 ≤ R.cells ∧ slots + 0 ≤ R.slots)
    (kk : ∀ r : Int32, post r → W p l e R s m args below meth c H locs cells slots Q (F0 m (pc + 3) ls (.int r :: rest))) : W p l e R s m args below meth c H locs cells slots Q (F0 m pc ls st0) :=
  q_callSi (va_runS (As := As) (rest := rest) S hM cw ⟨q_Bb, fun U hU hW => ⟨rfl, by rw [hU]; exact hP.sub is hs, hK.warm hW⟩⟩ rfl hn hsize hst (lv_room hW) hdg hcs) kk
/-- a pure call: a private static method of a nest mate -/
theorem q_ni {post : Int32 → Prop} (S : CallFix p m c cc nL s args Ts own) (hM : Met l y ws rm (va_Pc As (q_B D tys wc)) (vp_Si post) 0 0 (fun _ => False)) (cw : va_CN R s args own index y host bytes maxL ret ws rm 0 0 n ∧ (Cond.static y).before args s = true ∧ True)
    (hK : q_K D tys s) (hP : va_P D vwCl w0 H) (is : List Nat) (hs : is.filterMap (fun i => w0[i]?) = wc) (hn : As.length = n) (hsize : ls.size = nL) (hst : st0 = As.reverse ++ rest) (hW : (rest.map fun v => v.category).sum ≤ 8) (hdg : decode cc pc = .ok (.invokestatic index, 3)) (hcs : cells + 0 ≤ R.cells ∧ slots + 0 ≤ R.slots)
    (kk : ∀ r : Int32, post r → W p l e R s m args below meth c H locs cells slots Q (F0 m (pc + 3) ls (.int r :: rest))) : W p l e R s m args below meth c H locs cells slots Q (F0 m pc ls st0) :=
  q_callSi (va_runSN (As := As) (rest := rest) S hM cw ⟨q_Bb, fun U hU hW => ⟨rfl, by rw [hU]; exact hP.sub is hs, hK.warm hW⟩⟩ rfl hn hsize hst (lv_room hW) hdg hcs) kk
/-- behind a writing call that answers an int -/
theorem q_callMi {S : Type} {post : Int32 → S → Prop} {w1 w2 : S → va_W} {a : Array Value} (hr : va_Run p l e R s m args below meth c H locs cells slots 0 0 (F0 m pc ls st0) rest (va_Qi post (fun u t => va_P D vwCl (w1 u) t.heap) (va_A wc H.size) a) (va_A wc H.size))
    (hP : va_P D vwCl w0 H) (hD : va_D A0 w0) (hS : va_S A0 H0 H locs) (hA : ∀ q, H0.size ≤ q → A0 q) (is : List Nat) (hC : is.map (fun i => w0[i]?) = wc.map some) (hlen : ∀ u, is.length = (w1 u).length) (h2 : ∀ u, q_repl w0 is (w1 u) = w2 u) (hadr : ∀ u, (w2 u).map Prod.fst = w0.map Prod.fst)
    (kk : ∀ (r : Int32) (u : S) (H1 : Heap) (locs1 : List Loc), post r u → va_P D vwCl (w2 u) H1 → va_D A0 (w2 u) → va_S A0 H0 H1 locs1 → W p l e R s m args below meth c H1 locs1 cells slots Q (F0 m (pc + 3) ls (.int r :: rest))) : W p l e R s m args below meth c H locs cells slots Q (F0 m pc ls st0) := by
  have hF := va_free hD hS hA is hC
  refine va_calli hr hS (fun q _ h => hF q h) hF (fun r u t H1 locs1 ht hvm hw hB hz1 hk1 hS' => ?_)
  rw [ht] at hB
  have hP' := q_join hP hD is hC (hlen u) hk1 hB
  rw [h2 u] at hP'
  exact kk r u H1 locs1 hw hP' (q_Dadr (hadr u) hD) hS'
/-- behind a writing call without an answer -/
theorem q_callMv {S : Type} {post : S → Prop} {w1 w2 : S → va_W} {a : Array Value} (hr : va_Run p l e R s m args below meth c H locs cells slots 0 0 (F0 m pc ls st0) rest (va_Qv post (fun u t => va_P D vwCl (w1 u) t.heap) (va_A wc H.size) a) (va_A wc H.size))
    (hP : va_P D vwCl w0 H) (hD : va_D A0 w0) (hS : va_S A0 H0 H locs) (hA : ∀ q, H0.size ≤ q → A0 q) (is : List Nat) (hC : is.map (fun i => w0[i]?) = wc.map some) (hlen : ∀ u, is.length = (w1 u).length) (h2 : ∀ u, q_repl w0 is (w1 u) = w2 u) (hadr : ∀ u, (w2 u).map Prod.fst = w0.map Prod.fst)
    (kk : ∀ (u : S) (H1 : Heap) (locs1 : List Loc), post u → va_P D vwCl (w2 u) H1 → va_D A0 (w2 u) → va_S A0 H0 H1 locs1 → W p l e R s m args below meth c H1 locs1 cells slots Q (F0 m (pc + 3) ls rest)) : W p l e R s m args below meth c H locs cells slots Q (F0 m pc ls st0) := by
  have hF := va_free hD hS hA is hC
  refine va_callv hr hS (fun q _ h => hF q h) hF (fun u t H1 locs1 ht hvm hw hB hz1 hk1 hS' => ?_)
  rw [ht] at hB
  have hP' := q_join hP hD is hC (hlen u) hk1 hB
  rw [h2 u] at hP'
  exact kk u H1 locs1 hw hP' (q_Dadr (hadr u) hD) hS'
theorem q_subD {A : Nat → Prop} {ws wc : va_W} (hD : va_D A ws) (is : List Nat) (hn : va_nd is = true) (hs : is.map (fun i => ws[i]?) = wc.map some) : va_D (fun _ => True) wc := (hD.sub is hn hs).weaken (fun _ _ _ _ => trivial)
/-- cells at places, and the list of them -/
theorem q_pick {ws : va_W} : ∀ {is : List Nat} {wc : va_W}, is.map (fun i => ws[i]?) = wc.map some → is.filterMap (fun i => ws[i]?) = wc
  | [], [], _ => rfl
  | [], _ :: _, h => by cases h
  | _ :: _, [], h => by cases h
  | i :: is, x :: wc, h => by
    have h1 : ws[i]? = some x := (List.cons.inj h).1
    rw [List.filterMap_cons, h1, q_pick (is := is) (wc := wc) (List.cons.inj h).2]
theorem q_vmi {S : Type} {post : Int32 → S → Prop} {w1 w2 : S → va_W} {qc : vw_C} {fs : List Value} (F : CallFix p m c cc nL s args Ts own) (hM : Met l y ws rm (va_Pc (.ref b :: As) (q_M D tys wc H.size)) (va_Qi post (fun u t => va_P D vwCl (w1 u) t.heap) (va_A wc H.size)) 0 0 (va_A wc H.size)) (cw : CallW R s args own C index y bytes maxL ret ws rm 0 0 n)
    (hK : q_K D tys s) (hP : va_P D vwCl w0 H) (hD : va_D A0 w0) (hS : va_S A0 H0 H locs) (hA : ∀ q, H0.size ≤ q → A0 q) (is : List Nat) (hC : is.map (fun i => w0[i]?) = wc.map some) (hnd : va_nd is = true) (q0 ci : Nat) (hc : vwCl[ci]? = some qc) (hCC : qc.1 = C) (he : w0[q0]? = some (b, .inr (ci, fs))) (hn : As.length = n) (hsize : ls.size = nL) (hst : st0 = As.reverse ++ .ref b :: rest) (hW : (rest.map fun v => v.category).sum ≤ 8) (hdg : decode cc pc = .ok (.invokevirtual index, 3)) (hcs : cells + 0 ≤ R.cells ∧ slots + 0 ≤ R.slots)
    (hlen : ∀ u, is.length = (w1 u).length) (h2 : ∀ u, q_repl w0 is (w1 u) = w2 u) (hadr : ∀ u, (w2 u).map Prod.fst = w0.map Prod.fst)
    (kk : ∀ (r : Int32) (u : S) (H1 : Heap) (locs1 : List Loc), post r u → va_P D vwCl (w2 u) H1 → va_D A0 (w2 u) → va_S A0 H0 H1 locs1 → W p l e R s m args below meth c H1 locs1 cells slots Q (F0 m (pc + 3) ls (.int r :: rest))) : W p l e R s m args below meth c H locs cells slots Q (F0 m pc ls st0) :=
  q_callMi (va_runV (As := As) (rest := rest) F hM cw ⟨q_Mb, by subst hCC; exact va_recv hK.1 hP hc he, fun U hU hW => ⟨rfl, by rw [hU], by rw [hU]; exact hP.sub is (q_pick hC), hK.warm hW, q_subD hD is hnd hC⟩⟩ rfl hn hsize hst (lv_room hW) hdg hcs) hP hD hS hA is hC hlen h2 hadr kk
theorem q_vmv {S : Type} {post : S → Prop} {w1 w2 : S → va_W} {qc : vw_C} {fs : List Value} (F : CallFix p m c cc nL s args Ts own) (hM : Met l y ws rm (va_Pc (.ref b :: As) (q_M D tys wc H.size)) (va_Qv post (fun u t => va_P D vwCl (w1 u) t.heap) (va_A wc H.size)) 0 0 (va_A wc H.size)) (cw : CallW R s args own C index y bytes maxL ret ws rm 0 0 n)
    (hK : q_K D tys s) (hP : va_P D vwCl w0 H) (hD : va_D A0 w0) (hS : va_S A0 H0 H locs) (hA : ∀ q, H0.size ≤ q → A0 q) (is : List Nat) (hC : is.map (fun i => w0[i]?) = wc.map some) (hnd : va_nd is = true) (q0 ci : Nat) (hc : vwCl[ci]? = some qc) (hCC : qc.1 = C) (he : w0[q0]? = some (b, .inr (ci, fs))) (hn : As.length = n) (hsize : ls.size = nL) (hst : st0 = As.reverse ++ .ref b :: rest) (hW : (rest.map fun v => v.category).sum ≤ 8) (hdg : decode cc pc = .ok (.invokevirtual index, 3)) (hcs : cells + 0 ≤ R.cells ∧ slots + 0 ≤ R.slots)
    (hlen : ∀ u, is.length = (w1 u).length) (h2 : ∀ u, q_repl w0 is (w1 u) = w2 u) (hadr : ∀ u, (w2 u).map Prod.fst = w0.map Prod.fst)
    (kk : ∀ (u : S) (H1 : Heap) (locs1 : List Loc), post u → va_P D vwCl (w2 u) H1 → va_D A0 (w2 u) → va_S A0 H0 H1 locs1 → W p l e R s m args below meth c H1 locs1 cells slots Q (F0 m (pc + 3) ls rest)) : W p l e R s m args below meth c H locs cells slots Q (F0 m pc ls st0) :=
  q_callMv (va_runV (As := As) (rest := rest) F hM cw ⟨q_Mb, by subst hCC; exact va_recv hK.1 hP hc he, fun U hU hW => ⟨rfl, by rw [hU], by rw [hU]; exact hP.sub is (q_pick hC), hK.warm hW, q_subD hD is hnd hC⟩⟩ rfl hn hsize hst (lv_room hW) hdg hcs) hP hD hS hA is hC hlen h2 hadr kk
/-- a writing call without an answer: a private static method of a nest mate, of the own kind -/
theorem q_nmv {S : Type} {post : S → Prop} {w1 w2 : S → va_W} (F : CallFix p m c cc nL s args Ts own) (hM : Met l y ws rm (va_Pc As (q_M D tys wc H.size)) (va_Qv post (fun u t => va_P D vwCl (w1 u) t.heap) (va_A wc H.size)) 0 0 (va_A wc H.size)) (cw : va_CN R s args own index y host bytes maxL ret ws rm 0 0 n ∧ (Cond.static y).before args s = true ∧ True)
    (hK : q_K D tys s) (hP : va_P D vwCl w0 H) (hD : va_D A0 w0) (hS : va_S A0 H0 H locs) (hA : ∀ q, H0.size ≤ q → A0 q) (is : List Nat) (hC : is.map (fun i => w0[i]?) = wc.map some) (hnd : va_nd is = true) (hn : As.length = n) (hsize : ls.size = nL) (hst : st0 = As.reverse ++ rest) (hW : (rest.map fun v => v.category).sum ≤ 8) (hdg : decode cc pc = .ok (.invokestatic index, 3)) (hcs : cells + 0 ≤ R.cells ∧ slots + 0 ≤ R.slots)
    (hlen : ∀ u, is.length = (w1 u).length) (h2 : ∀ u, q_repl w0 is (w1 u) = w2 u) (hadr : ∀ u, (w2 u).map Prod.fst = w0.map Prod.fst)
    (kk : ∀ (u : S) (H1 : Heap) (locs1 : List Loc), post u → va_P D vwCl (w2 u) H1 → va_D A0 (w2 u) → va_S A0 H0 H1 locs1 → W p l e R s m args below meth c H1 locs1 cells slots Q (F0 m (pc + 3) ls rest)) : W p l e R s m args below meth c H locs cells slots Q (F0 m pc ls st0) :=
  q_callMv (va_runSN (As := As) (rest := rest) F hM cw ⟨q_Mb, fun U hU hW => ⟨rfl, by rw [hU], by rw [hU]; exact hP.sub is (q_pick hC), hK.warm hW, q_subD hD is hnd hC⟩⟩ rfl hn hsize hst (lv_room hW) hdg hcs) hP hD hS hA is hC hlen h2 hadr kk
/-- reads and writes of arrays at a place that is told as a number -/
theorem q_ald (hexec : p.tables.exec = Jvm.exec) (hb : c.code = cc) (hK : q_K D tys s) (hP : va_P D vwCl w0 H) (q0 t0 : Nat) {a : Nat} {cA : ClassId} {N k : Nat} {f : Nat → Int32} (ha : w0[q0]? = some (a, .inl (cA, N, .inl f))) (ht : tys[t0]? = some (cA, .int)) (hk : k < N) (hN : N < 2 ^ 31) (hdg : decode cc pc = .ok (.iaload, 1))
    (kk : W p l e R s m args below meth c H locs cells slots Q (F0 m (pc + 1) ls (.int (f k) :: rest))) : W p l e R s m args below meth c H locs cells slots Q (F0 m pc ls (.int (nI k) :: .ref a :: rest)) :=
  va_iald hexec hb hK.1 hP q0 t0 ha ht (vp_in_nI hk hN) hdg (by rw [nI_clamp (Nat.lt_trans hk hN)]; exact kk)
theorem q_bld (hexec : p.tables.exec = Jvm.exec) (hb : c.code = cc) (hK : q_K D tys s) (hP : va_P D vwCl w0 H) (q0 t0 : Nat) {a : Nat} {cA : ClassId} {N k : Nat} {f : Nat → Int32} (ha : w0[q0]? = some (a, .inl (cA, N, .inl f))) (ht : tys[t0]? = some (cA, .byte)) (hk : k < N) (hN : N < 2 ^ 31) (hdg : decode cc pc = .ok (.baload, 1))
    (kk : W p l e R s m args below meth c H locs cells slots Q (F0 m (pc + 1) ls (.int (f k) :: rest))) : W p l e R s m args below meth c H locs cells slots Q (F0 m pc ls (.int (nI k) :: .ref a :: rest)) :=
  va_bald hexec hb hK.1 hP q0 t0 ha ht (vp_in_nI hk hN) hdg (by rw [nI_clamp (Nat.lt_trans hk hN)]; exact kk)
theorem q_zld (hexec : p.tables.exec = Jvm.exec) (hb : c.code = cc) (hK : q_K D tys s) (hP : va_P D vwCl w0 H) (q0 t0 : Nat) {a : Nat} {cA : ClassId} {N k : Nat} {f : Nat → Int32} (ha : w0[q0]? = some (a, .inl (cA, N, .inl f))) (ht : tys[t0]? = some (cA, .boolean)) (hk : k < N) (hN : N < 2 ^ 31) (hdg : decode cc pc = .ok (.baload, 1))
    (kk : W p l e R s m args below meth c H locs cells slots Q (F0 m (pc + 1) ls (.int (f k) :: rest))) : W p l e R s m args below meth c H locs cells slots Q (F0 m pc ls (.int (nI k) :: .ref a :: rest)) :=
  va_zald hexec hb hK.1 hP q0 t0 ha ht (vp_in_nI hk hN) hdg (by rw [nI_clamp (Nat.lt_trans hk hN)]; exact kk)
theorem q_ast (hexec : p.tables.exec = Jvm.exec) (hb : c.code = cc) (hK : q_K D tys s) (hP : va_P D vwCl w0 H) (hD : va_D A0 w0) (hS : va_S A0 H0 H locs) (q0 t0 : Nat) {a : Nat} {cA : ClassId} {N k : Nat} {f : Nat → Int32} {x : Int32} (ha : w0[q0]? = some (a, .inl (cA, N, .inl f))) (ht : tys[t0]? = some (cA, .int)) (hk : k < N) (hN : N < 2 ^ 31) (hdg : decode cc pc = .ok (.iastore, 1)) {w2 : va_W} (h2 : w0.set q0 (a, .inl (cA, N, .inl (upd f k x))) = w2)
    (kk : ∀ (H1 : Heap) (locs1 : List Loc), va_P D vwCl w2 H1 → va_D A0 w2 → va_S A0 H0 H1 locs1 → W p l e R s m args below meth c H1 locs1 cells slots Q (F0 m (pc + 1) ls rest)) : W p l e R s m args below meth c H locs cells slots Q (F0 m pc ls (.int x :: .int (nI k) :: .ref a :: rest)) := by
  subst h2
  exact va_iast hexec hb hK.1 hP hD hS q0 t0 ha ht (vp_in_nI hk hN) hdg (by rw [nI_clamp (Nat.lt_trans hk hN)]; exact kk)
theorem q_bst (hexec : p.tables.exec = Jvm.exec) (hb : c.code = cc) (hK : q_K D tys s) (hP : va_P D vwCl w0 H) (hD : va_D A0 w0) (hS : va_S A0 H0 H locs) (q0 t0 : Nat) {a : Nat} {cA : ClassId} {N k : Nat} {f : Nat → Int32} {x : Int32} (ha : w0[q0]? = some (a, .inl (cA, N, .inl f))) (ht : tys[t0]? = some (cA, .byte)) (hk : k < N) (hN : N < 2 ^ 31) (hdg : decode cc pc = .ok (.bastore, 1)) {w2 : va_W} (h2 : w0.set q0 (a, .inl (cA, N, .inl (upd f k (vp_nar .byte x)))) = w2)
    (kk : ∀ (H1 : Heap) (locs1 : List Loc), va_P D vwCl w2 H1 → va_D A0 w2 → va_S A0 H0 H1 locs1 → W p l e R s m args below meth c H1 locs1 cells slots Q (F0 m (pc + 1) ls rest)) : W p l e R s m args below meth c H locs cells slots Q (F0 m pc ls (.int x :: .int (nI k) :: .ref a :: rest)) := by
  subst h2
  exact va_bast hexec hb hK.1 hP hD hS q0 t0 ha ht (vp_in_nI hk hN) hdg (by rw [nI_clamp (Nat.lt_trans hk hN)]; exact kk)
theorem q_zst (hexec : p.tables.exec = Jvm.exec) (hb : c.code = cc) (hK : q_K D tys s) (hP : va_P D vwCl w0 H) (hD : va_D A0 w0) (hS : va_S A0 H0 H locs) (q0 t0 : Nat) {a : Nat} {cA : ClassId} {N k : Nat} {f : Nat → Int32} {x : Int32} (ha : w0[q0]? = some (a, .inl (cA, N, .inl f))) (ht : tys[t0]? = some (cA, .boolean)) (hk : k < N) (hN : N < 2 ^ 31) (hdg : decode cc pc = .ok (.bastore, 1)) {w2 : va_W} (h2 : w0.set q0 (a, .inl (cA, N, .inl (upd f k (vp_nar .boolean x)))) = w2)
    (kk : ∀ (H1 : Heap) (locs1 : List Loc), va_P D vwCl w2 H1 → va_D A0 w2 → va_S A0 H0 H1 locs1 → W p l e R s m args below meth c H1 locs1 cells slots Q (F0 m (pc + 1) ls rest)) : W p l e R s m args below meth c H locs cells slots Q (F0 m pc ls (.int x :: .int (nI k) :: .ref a :: rest)) := by
  subst h2
  exact va_zast hexec hb hK.1 hP hD hS q0 t0 ha ht (vp_in_nI hk hN) hdg (by rw [nI_clamp (Nat.lt_trans hk hN)]; exact kk)
theorem q_put (hexec : p.tables.exec = Jvm.exec) (hb : c.code = cc) {ref CC : String} {T : u_T} {N ci : Nat} (hts : ∀ w ∈ Ts, w.before args s = true) (hin : ∀ w ∈ u_ws CC T N, w ∈ Ts) (ty0 : Nat → FieldType) (hty : ∀ k, k < N → parseFieldDescriptor (T k).2.2.1 = some (ty0 k)) (hnm : ∀ a, a < N → ∀ b, b < N → a ≠ b → (T a).2.1 ≠ (T b).2.1) (hown : s.vm.findClass own = some m.cls) (hK : q_K D tys s) (hP : va_P D vwCl w0 H) (hD : va_D A0 w0) (hS0 : va_S A0 H0 H locs) (q0 : Nat) {a : Nat} {fs : List Value} (he : w0[q0]? = some (a, .inr (ci, fs))) (hc : vwCl[ci]? = some (CC, T, N)) (k : Nat) (hk : k < N) (hlink : (Cond.fieldLink own index ref (T k).2.1 (T k).2.2.1).before args s = true) (href : ref = (T k).1) (hfin : (T k).2.2.2 = false) (hty1 : ty0 k = .int) (hkl : k < fs.length) {v : Int32}
    (hdg : decode cc pc = .ok (.putfield index, 3)) {w2 : va_W} (h2 : w0.set q0 (a, .inr (ci, fs.set k (.int v))) = w2) (kk : ∀ (H1 : Heap) (locs1 : List Loc), va_P D vwCl w2 H1 → va_D A0 w2 → va_S A0 H0 H1 locs1 → W p l e R s m args below meth c H1 locs1 cells slots Q (F0 m (pc + 3) ls rest)) : W p l e R s m args below meth c H locs cells slots Q (F0 m pc ls (.int v :: .ref a :: rest)) := by
  subst h2
  subst href
  exact va_put hexec hb hts hin ty0 hty hnm hown hK.1 hP hD hS0 q0 he hc k hk hlink (fun _ h => h) hfin (by rw [hty k hk, hty1]) rfl rfl hkl hdg kk
theorem q_get (hexec : p.tables.exec = Jvm.exec) (hb : c.code = cc) {ref CC : String} {T : u_T} {N ci : Nat} (hts : ∀ w ∈ Ts, w.before args s = true) (hin : ∀ w ∈ u_ws CC T N, w ∈ Ts) (hown : s.vm.findClass own = some m.cls) (hK : q_K D tys s) (hP : va_P D vwCl w0 H) (q0 : Nat) {a : Nat} {fs : List Value} (he : w0[q0]? = some (a, .inr (ci, fs))) (hc : vwCl[ci]? = some (CC, T, N)) (k : Nat) (hk : k < N) (hlink : (Cond.fieldLink own index ref (T k).2.1 (T k).2.2.1).before args s = true) (href : ref = (T k).1) {v : Value} (hv : fs[k]? = some v) (hdg : decode cc pc = .ok (.getfield index, 3))
    (kk : W p l e R s m args below meth c H locs cells slots Q (F0 m (pc + 3) ls (v :: rest))) : W p l e R s m args below meth c H locs cells slots Q (F0 m pc ls (.ref a :: rest)) := by
  subst href
  exact va_get hexec hb hts hin hown hK.1 hP q0 he hc k hk hlink (fun _ h => h) hv hdg kk
theorem q_alen (hexec : p.tables.exec = Jvm.exec) (hb : c.code = cc) (hK : q_K D tys s) (hP : va_P D vwCl w0 H) (q0 t0 : Nat) {a : Nat} {cA : ClassId} {x : vp_A} (ha : w0[q0]? = some (a, .inl (cA, x))) {ty : FieldType} (ht : tys[t0]? = some (cA, ty)) (hdg : decode cc pc = .ok (.arraylength, 1))
    (kk : W p l e R s m args below meth c H locs cells slots Q (F0 m (pc + 1) ls (.int (nI x.1) :: rest))) : W p l e R s m args below meth c H locs cells slots Q (F0 m pc ls (.ref a :: rest)) :=
  va_alen hexec hb hK.1 hP q0 t0 ha ht rfl hdg kk
/-- a pure method's end -/
theorem q_zret {post : Int32 → Prop} {v : Int32} {ty : FieldType} (hexec : p.tables.exec = Jvm.exec) (hb : c.code = cc) (hr : meth.sig.returnType = some ty) (hlocks : meth.locks = false) (hn : narrow ty (.int v) = .int v) (hp : post v) (hdg : decode cc pc = .ok (.ireturn, 1)) : W p l e R s m args below meth c s.heap [] cells slots (MQ below (vp_Si post) args s cells slots (fun _ => False)) (F0 m pc ls [.int v]) :=
  W.zret hexec hb hr hn (fun t ht _ => ⟨v, rfl, hp, ht⟩) (fun _ h => by cases h) hdg hlocks
/-- a writing method's end -/
theorem q_mret {S : Type} {post : Int32 → S → Prop} {w1 : S → va_W} {v : Int32} {ty : FieldType} {A : Nat → Prop} (u : S) (hexec : p.tables.exec = Jvm.exec) (hb : c.code = cc) (hr : meth.sig.returnType = some ty) (hlocks : meth.locks = false) (hn : narrow ty (.int v) = .int v) (hP : va_P D vwCl (w1 u) H) (hS : va_S A s.heap H locs) (hdg : decode cc pc = .ok (.ireturn, 1)) (hp : post v u) : W p l e R s m args below meth c H locs cells slots (MQ below (va_Qi post (fun u t => va_P D vwCl (w1 u) t.heap) A) args s cells slots A) (F0 m pc ls [.int v]) :=
  W.zret hexec hb hr hn (fun t ht _ => ⟨⟨v, u, rfl, hp, by show va_P D vwCl (w1 u) t.heap; rw [ht]; exact hP⟩, hS.F ht⟩) hS.2.2 hdg hlocks
theorem q_mretv {S : Type} {post : S → Prop} {w1 : S → va_W} {A : Nat → Prop} (u : S) (hexec : p.tables.exec = Jvm.exec) (hb : c.code = cc) (hr : meth.sig.returnType = none) (hlocks : meth.locks = false) (hP : va_P D vwCl (w1 u) H) (hS : va_S A s.heap H locs) (hdg : decode cc pc = .ok (.return_, 1)) (hp : post u) : W p l e R s m args below meth c H locs cells slots (MQ below (va_Qv post (fun u t => va_P D vwCl (w1 u) t.heap) A) args s cells slots A) (F0 m pc ls []) :=
  W.vret hexec hb hr (fun t ht _ => ⟨⟨u, rfl, hp, by show va_P D vwCl (w1 u) t.heap; rw [ht]; exact hP⟩, hS.F ht⟩) hS.2.2 hdg hlocks
end QT
def bI (b : Bool) : Int32 := if b then 1 else 0
theorem q_nar0 : narrow .boolean (.int (nI 0)) = .int (nI 0) := rfl
theorem q_nar1 : narrow .boolean (.int (nI 1)) = .int (nI 1) := rfl
theorem q_narB (b : Bool) : narrow .boolean (.int (bI b)) = .int (bI b) := by cases b <;> rfl
