/-! tools for what makes objects and arrays -/
section QC
variable {p : Program} {l : Launch} {e : Env} {R : Room} {s : State} {m : MethodId} {args : Array Value} {below : List Frame} {meth : Method} {c : Code} {H : Heap} {locs : List Loc} {cells slots : Nat} {Q : State → Prop}
variable {y : MethodName} {bytes cc : ByteArray} {maxL nL n index mc ms : Nat} {ws : List Cond} {rm : Room} {Ts : List Cond} {own host : String} {b : Addr} {As rest st0 : List Value} {pc : Nat} {ls : Array Slot} {D : va_G} {tys : List (ClassId × FieldType)} {w0 wc wr : va_W} {A0 : Nat → Prop} {H0 : Heap}
theorem q_newa (hexec : p.tables.exec = Jvm.exec) (hb : c.code = cc) {atype : ArrayType} {ty : FieldType} (hty : newarray.typeOf atype = ty) (harr : (Cond.arrayClass ty).before args s = true) (hdef : defaultValue ty = .int 0) (hRA : ∀ cA, va_RA s cA ty → s.vm.findClass ("[" ++ ty.toString) = some cA) (hK : q_K D tys s) (t0 : Nat) {cA : ClassId} (ht : tys[t0]? = some (cA, ty))
    (hP : va_P D vwCl w0 H) (hD : va_D A0 w0) (hS : va_S A0 H0 H locs) (hA : ∀ q, H0.size ≤ q → A0 q) {N k2 n2 : Nat} (hN : N < 2147483648) (hbytes : N * componentBytes ty ≤ 536870912) (hcells : cells + 1 ≤ R.cells) (hslots : slots + N ≤ R.slots) (hdg : decode cc pc = .ok (.newarray atype, 2)) (h1 : cells + 1 ≤ k2) (h2 : slots + N ≤ n2)
    (kk : ∀ (q : Nat) (H1 : Heap), va_P D vwCl (w0 ++ [(q, .inl (cA, N, .inl (fun _ => 0)))]) H1 → va_D A0 (w0 ++ [(q, .inl (cA, N, .inl (fun _ => 0)))]) → va_S A0 H0 H1 locs → W p l e R s m args below meth c H1 locs k2 n2 Q (F0 m (pc + 2) ls (.ref q :: rest))) : W p l e R s m args below meth c H locs cells slots Q (F0 m pc ls (.int (nI N) :: rest)) := by
  subst hty
  have hn0 : ¬ nI N < 0 := fun z => by
    rw [Int32.lt_iff_toInt_lt, nI_toInt hN] at z
    have e0 : (0 : Int32).toInt = 0 := rfl
    omega
  refine va_newaK hexec hb harr rfl hdg rfl hn0 (nI_clamp hN) hbytes hcells hslots rfl fun H1 cA' e1 z1 o1 hAr hNm => ?_
  have hc : cA' = cA := Option.some.inj (hNm.symm.trans (hRA cA (hK.1.2 t0 _ ht).2))
  subst hc
  have hk : ∀ (k : Nat) (x : Nat × va_E), w0[k]? = some x → H1[x.1]? = H[x.1]? := fun k x hx => o1 x.1 ((hP k x hx).lt)
  refine W.widen h1 h2 (kk H.size H1 ((hP.kept hk).app (fun k x hx => ?_)) (hD.push hP rfl (hA _ hS.1)) ⟨Nat.le_trans hS.1 (by omega), fun x h1 h2 => (o1 x (Nat.lt_of_lt_of_le h1 hS.1)).trans (hS.2.1 x h1 h2), hS.2.2⟩)
  have hz : k < 1 := (List.getElem?_eq_some_iff.mp hx).1
  rw [show k = 0 by omega] at hx
  cases hx
  show H1[H.size]? = some (vp_cell _ _)
  rw [e1, hdef]; rfl
theorem q_callC {B : Unit → State → Prop} {a : Array Value} (hr : va_Run p l e R s m args below meth c H locs cells slots mc ms (F0 m pc ls st0) rest (va_Qv (fun _ : Unit => True) B (va_A wc H.size) a) (va_A wc H.size))
    (hP : va_P D vwCl w0 H) (hD : va_D A0 w0) (hS : va_S A0 H0 H locs) (hA : ∀ q, H0.size ≤ q → A0 q) (is : List Nat) (hC : is.map (fun i => w0[i]?) = wc.map some) {k2 n2 : Nat} (h1 : cells + mc ≤ k2) (h2 : slots + ms ≤ n2) (isR : List Nat) (hR : isR.map (fun i => w0[i]?) = wr.map some) (hnr : va_nd isR = true) (hdis : ∀ i ∈ isR, i ∉ is)
    (kk : ∀ (t : State) (H1 : Heap) (locs1 : List Loc), t.heap = H1 → B () t → (∀ w1, va_P D vwCl w1 H1 → va_D (va_A wc H.size) w1 → va_P D vwCl (wr ++ w1) H1 ∧ va_D A0 (wr ++ w1)) → va_S A0 H0 H1 locs1 → W p l e R s m args below meth c H1 locs1 k2 n2 Q (F0 m (pc + 3) ls rest)) : W p l e R s m args below meth c H locs cells slots Q (F0 m pc ls st0) := by
  have hF := va_free hD hS hA is hC
  refine va_callv hr hS (fun q _ h => hF q h) hF (fun u t H1 locs1 ht hvm hw hB hz1 hk1 hS' => ?_)
  exact W.widen h1 h2 (kk t H1 locs1 ht hB (fun w1 hP1 hD1 => va_join hP hD is isR hC hR hnr hdis hk1 hF hP1 hD1) hS')
/-- a constructor's call -/
theorem q_ini {B : Unit → State → Prop} (F : CallFix p m c cc nL s args Ts own) (hM : Met l y ws rm (va_Pc (.ref b :: As) (q_M D tys wc H.size)) (va_Qv (fun _ : Unit => True) B (va_A wc H.size)) mc ms (va_A wc H.size)) (cw : CallB R s args own index y bytes maxL none ws rm mc ms n ∧ y.name = "<init>" ∧ (Cond.instanceMethod y).before args s = true)
    (hK : q_K D tys s) (hP : va_P D vwCl w0 H) (hD : va_D A0 w0) (hS : va_S A0 H0 H locs) (hA : ∀ q, H0.size ≤ q → A0 q) (is : List Nat) (hC : is.map (fun i => w0[i]?) = wc.map some) (hnd : va_nd is = true) (hn : As.length = n) (hsize : ls.size = nL) (hst : st0 = As.reverse ++ .ref b :: rest) (hW : (rest.map fun v => v.category).sum ≤ 8) (hdg : decode cc pc = .ok (.invokespecial index, 3)) (hcs : cells + mc ≤ R.cells ∧ slots + ms ≤ R.slots)
    {k2 n2 : Nat} (h1 : cells + mc ≤ k2) (h2 : slots + ms ≤ n2) (isR : List Nat) (hR : isR.map (fun i => w0[i]?) = wr.map some) (hnr : va_nd isR = true) (hdis : ∀ i ∈ isR, i ∉ is)
    (kk : ∀ (t : State) (H1 : Heap) (locs1 : List Loc), t.heap = H1 → B () t → (∀ w1, va_P D vwCl w1 H1 → va_D (va_A wc H.size) w1 → va_P D vwCl (wr ++ w1) H1 ∧ va_D A0 (wr ++ w1)) → va_S A0 H0 H1 locs1 → W p l e R s m args below meth c H1 locs1 k2 n2 Q (F0 m (pc + 3) ls rest)) : W p l e R s m args below meth c H locs cells slots Q (F0 m pc ls st0) :=
  q_callC (va_runI (As := As) (rest := rest) F hM cw ⟨q_Mb, fun U hU hW => ⟨rfl, by rw [hU], by rw [hU]; exact hP.sub is (q_pick hC), hK.warm hW, q_subD hD is hnd hC⟩⟩ rfl hn hsize hst (lv_room hW) hdg hcs) hP hD hS hA is hC h1 h2 isR hR hnr hdis kk
/-- a nest mate's -/
theorem q_inN {B : Unit → State → Prop} (F : CallFix p m c cc nL s args Ts own) (hM : Met l y ws rm (va_Pc (.ref b :: As) (q_M D tys wc H.size)) (va_Qv (fun _ : Unit => True) B (va_A wc H.size)) mc ms (va_A wc H.size)) (cw : va_CN R s args own index y host bytes maxL none ws rm mc ms n ∧ y.name = "<init>" ∧ (Cond.instanceMethod y).before args s = true)
    (hK : q_K D tys s) (hP : va_P D vwCl w0 H) (hD : va_D A0 w0) (hS : va_S A0 H0 H locs) (hA : ∀ q, H0.size ≤ q → A0 q) (is : List Nat) (hC : is.map (fun i => w0[i]?) = wc.map some) (hnd : va_nd is = true) (hn : As.length = n) (hsize : ls.size = nL) (hst : st0 = As.reverse ++ .ref b :: rest) (hW : (rest.map fun v => v.category).sum ≤ 8) (hdg : decode cc pc = .ok (.invokespecial index, 3)) (hcs : cells + mc ≤ R.cells ∧ slots + ms ≤ R.slots)
    {k2 n2 : Nat} (h1 : cells + mc ≤ k2) (h2 : slots + ms ≤ n2) (isR : List Nat) (hR : isR.map (fun i => w0[i]?) = wr.map some) (hnr : va_nd isR = true) (hdis : ∀ i ∈ isR, i ∉ is)
    (kk : ∀ (t : State) (H1 : Heap) (locs1 : List Loc), t.heap = H1 → B () t → (∀ w1, va_P D vwCl w1 H1 → va_D (va_A wc H.size) w1 → va_P D vwCl (wr ++ w1) H1 ∧ va_D A0 (wr ++ w1)) → va_S A0 H0 H1 locs1 → W p l e R s m args below meth c H1 locs1 k2 n2 Q (F0 m (pc + 3) ls rest)) : W p l e R s m args below meth c H locs cells slots Q (F0 m pc ls st0) :=
  q_callC (va_runIN (As := As) (rest := rest) F hM cw ⟨q_Mb, fun U hU hW => ⟨rfl, by rw [hU], by rw [hU]; exact hP.sub is (q_pick hC), hK.warm hW, q_subD hD is hnd hC⟩⟩ rfl hn hsize hst (lv_room hW) hdg hcs) hP hD hS hA is hC h1 h2 isR hR hnr hdis kk
/-- a constructor's end -/
theorem q_cret {B : Unit → State → Prop} {A : Nat → Prop} (hexec : p.tables.exec = Jvm.exec) (hb : c.code = cc) (hr : meth.sig.returnType = none) (hlocks : meth.locks = false) (hS : va_S A s.heap H locs) (hdg : decode cc pc = .ok (.return_, 1)) (hB : ∀ t : State, t.heap = H → B () t) : W p l e R s m args below meth c H locs cells slots (MQ below (va_Qv (fun _ : Unit => True) B A) args s cells slots A) (F0 m pc ls []) :=
  W.vret hexec hb hr (fun t ht _ => ⟨⟨(), rfl, trivial, hB t ht⟩, hS.F ht⟩) hS.2.2 hdg hlocks
end QC
/-- the people of a new object -/
def q_T0 : Nat → Nat → Nat := q_upT (q_upT (q_upT (fun _ _ => 0) 0 0 9 9 0 9) 1 0 5 9 1 9) 2 2 7 9 2 9
theorem q_Tr0 (g : Nat → Int32) : q_Tr (fun _ _ => 0) 0 g := fun i hi => absurd hi (Nat.not_lt_zero _)
theorem q_BdT0 : q_Bd q_T0 3 := ⟨by decide, by decide⟩
