/-! throws: what they need, and contracts of methods that may throw (by program: wip/whole/xbase.py) -/
def zEn (k : Nat) : String := match k with
  | 1 => "java/lang/IndexOutOfBoundsException"
  | 2 => "java/lang/IllegalArgumentException"
  | _ => "java/lang/IllegalStateException"
def zNm : List String := ["java/lang/RuntimeException", "java/lang/Exception"]
def zTx : List (Nat × String) := [(21, "the hour is not 0 to 23"), (28, "the amount is not 0 to 900"), (35, "the sluice is not 0 to 20"), (46, "there are 4 boxes"), (53, "the weight is not 10 to 60"), (55, "the cams are not 1 to 4"), (62, "the box has 4 stamps"), (68, "there is no such stamp"), (79, "the feed is not 0 to 300"), (81, "the buddle is not 0 to 2"), (89, "a box tells 0 to 11"), (95, "the amount is not 1 to 5000"), (97, "the tin is not 0 to 1000"), (99, "the hardness is not 1 to 9"), (117, "there is no such lot"), (119, "a lot tells 0 to 2"), (140, "the works tell 0 to 13"), (149, "a buddle tells 0 to 2"), (156, "the water is not 10 to 90"), (162, "the buddle is empty"), (175, "the amount is less than 1"), (177, "there is not so much in the store"), (182, "what is foreseen is 0 to 4"), (200, "the tin is less than 0"), (250, "there is no such box"), (252, "there are 30 lots in the hopper"), (254, "the hours are less than 1 or too many"), (259, "the hour would be greater than 5000")]
def zNd : List String := ["java/lang/RuntimeException", "java/lang/Exception", Bundle.tN]
def zE (A : Nat → Prop) (U : State) (H : Heap) : Prop :=
  vx_Zq Bundle.tN "UNASSIGNED_STACK" Bundle.steD A U H ∧ vx_Zq Bundle.tN "SUPPRESSED_SENTINEL" Bundle.listD A U H ∧ (∀ q ∈ zTx, ∃ a, vk_R RX6 q.1 q.2 a U) ∧ (∀ k ∈ [1, 2, 3], va_Nw (.castable (zEn k) (zEn k)) U) ∧ ∀ C ∈ zNd, va_Nw (.declares (Bundle.initS C)) U
theorem zE_to {A A1 : Nat → Prop} {s U : State} {H H1 : Heap} (hW : s.WarmedH U.vm) (h : zE A s H) (hq : ∀ a : Nat, a < H.size → ¬ A a → H1[a]? = H[a]?) (hA : ∀ q, A1 q → A q) : zE A1 U H1 :=
  ⟨((h.1.moved hW.alike).kept hq).narrow hA, ((h.2.1.moved hW.alike).kept hq).narrow hA, fun q hq1 => (h.2.2.1 q hq1).imp (fun _ h1 => h1.warm hW), fun k hk => va_Nw.warmC hW (h.2.2.2.1 k hk), fun k hk => va_Nw.warmD hW (h.2.2.2.2 k hk)⟩
theorem zE_same {A : Nat → Prop} {u U : State} {H : Heap} (hv : u.vm = U.vm) (h : zE A u H) : zE A U H := by
  have hA : u.vm.Alike U.vm := by rw [hv]; exact Vm.Alike.refl _
  exact ⟨h.1.moved hA, h.2.1.moved hA, fun q hq1 => (h.2.2.1 q hq1).imp (fun _ h1 => h1.same hv.symm), fun k hk => va_Nw.same rfl hv (h.2.2.2.1 k hk), fun k hk => va_Nw.same rfl hv (h.2.2.2.2 k hk)⟩
def zPx (D : va_G) (cy : Nat → ClassId) (ad : ZN → Nat) (L : List ZN) (m : ZM) (sz : Nat) (av : List Value) : Array Value → State → Prop := va_Pc av (fun U => U.heap.size = sz ∧ va_P D vwCl (zw cy ad L m) U.heap ∧ va_K D vwCl (ztys cy) U ∧ va_D (fun _ => True) (zw cy ad L m) ∧ zNw U ∧ zE (zA ad L sz) U U.heap)
theorem zPx_blind {D : va_G} {cy : Nat → ClassId} {ad : ZN → Nat} {L : List ZN} {m : ZM} {sz : Nat} {av : List Value} : FrameBlind (zPx D cy ad L m sz av) := fun a U g mk q => by
  obtain ⟨q0, q1, qP, qK, qD, qN, qE⟩ := q
  exact ⟨q0, q1, qP, va_K.moved (u := U) (U := U.calling g mk a) (Vm.Alike.refl U.vm) qK, qD, zNw_same (u := U) (U := U.calling g mk a) rfl qN, zE_same (u := U) (U := U.calling g mk a) rfl qE⟩
/-- where a method throws -/
def zXc (px : String → ZM → Prop) (D : va_G) (cy : Nat → ClassId) (ad : ZN → Nat) (L : List ZN) (sz : Nat) : String → State → State → Prop := vx_X (S := ZM) (fun _ => True) (fun E u t => px E u ∧ zB D cy ad L sz u t) (zA ad L sz)
/-- how a method that may throw is opened -/
theorem zXopen {l : Launch} {y : MethodName} {b : ByteArray} {maxL : Nat} {ret : Option FieldType} {rm : Room} {D : va_G} {cy : Nat → ClassId} {ad : ZN → Nat} {L : List ZN} {m : ZM} {sz : Nat} {av : List Value} {Qc : Nat → Array Value → State → Outcome → State → Prop} {XC : Nat → String → State → State → Prop} {mc ms : Nat} (own : String)
    (hy : plainName y.cls = true) (hown : y.cls = own) (hn : (lg_sl av).length ≤ maxL)
    (body : ∀ (p : Program) (e : Env) (s : State) (mi : MethodId) (below : List Frame) (meth : Method) (c : Code) (ls : Array Slot), zX p s mi av.toArray c b own D cy → zE (zA ad L s.heap.size) s s.heap → (∀ x ∈ c.exceptionTable.toList, False) → meth.sig.returnType = ret → meth.locks = false → c.maxLocals = maxL → lv_has ls maxL (lv_args 0 av) → ∀ (H : Heap) (locs : List Loc), zH D cy ad L s.heap H locs m →
      W p l e rm s mi av.toArray below meth c H locs 0 0 (vx_MQ below (Qc s.heap.size) (XC s.heap.size) av.toArray s mc ms (zA ad L s.heap.size)) (F0 mi 0 ls [])) :
    vx_Met l y (zws y b maxL ret) rm (zPx D cy ad L m sz av) (Qc sz) (XC sz) mc ms (zA ad L sz) := by
  refine vx_ofW (cc := b) (maxL := maxL) (ret := ret) hy rfl ?_
  intro p e s mi args below meth c s₁ B hml hnt hv
  obtain ⟨rfl, hsz, hP, hK, hD0, hNw, hE⟩ := hv
  subst hsz
  have hts := atoms_spec (ws := zws y b maxL ret) B.pre
  have hD : va_D (zA ad L s.heap.size) (zw cy ad L m) := hD0.weaken (fun k q h _ => by
    obtain ⟨n, h1, h2⟩ := zw_mem h
    exact Or.inl ⟨n, h1, h2⟩)
  have hl := lv_entry av (n := maxL) hn
  rw [lg_entry_eq]
  have hfc : s.vm.findClass own = some mi.cls := by rw [← hown]; exact findClass_of_methodNamed B.named
  exact body p e s mi below meth c _ ⟨B.exec, B.bytes, fun w hw => hts w (List.mem_cons_of_mem _ hw), hfc, hK, hNw⟩ hE hnt B.returns B.notSynchronized hml hl _ _ ⟨hP, hD, va_S.rf⟩

theorem zth_ot1 : ∀ w ∈ Cond.classLink RX6 19 "java/lang/IndexOutOfBoundsException" :: Cond.initialized "java/lang/IndexOutOfBoundsException" :: vx_atS RX6 23 "java/lang/IndexOutOfBoundsException" zNm, vx_ot w = true := List.all_eq_true.mp (by decide +kernel)
theorem zth_nb1 : ∀ w ∈ (vx_atS RX6 23 "java/lang/IndexOutOfBoundsException" zNm).filter (fun w => !goodWord w), w ∈ [Cond.castable "java/lang/IndexOutOfBoundsException" "java/lang/IndexOutOfBoundsException", Cond.declares (Bundle.initS "java/lang/RuntimeException"), Cond.declares (Bundle.initS "java/lang/Exception"), Cond.declares (Bundle.initS Bundle.tN)] := fun w hw => of_decide_eq_true (List.all_eq_true.mp (show ((vx_atS RX6 23 "java/lang/IndexOutOfBoundsException" zNm).filter (fun w => !goodWord w)).all (fun w => decide (w ∈ [Cond.castable "java/lang/IndexOutOfBoundsException" "java/lang/IndexOutOfBoundsException", Cond.declares (Bundle.initS "java/lang/RuntimeException"), Cond.declares (Bundle.initS "java/lang/Exception"), Cond.declares (Bundle.initS Bundle.tN)])) = true from by decide +kernel) w hw)
theorem zth_in1 : ∀ w ∈ (vx_atS RX6 23 "java/lang/IndexOutOfBoundsException" zNm).filter goodWord, w ∈ wsL_law := fun w h => List.mem_append_left _ (List.mem_append_left _ (List.mem_append_right _ h))
theorem zth_ot2 : ∀ w ∈ Cond.classLink RX6 26 "java/lang/IllegalArgumentException" :: Cond.initialized "java/lang/IllegalArgumentException" :: vx_atS RX6 30 "java/lang/IllegalArgumentException" zNm, vx_ot w = true := List.all_eq_true.mp (by decide +kernel)
theorem zth_nb2 : ∀ w ∈ (vx_atS RX6 30 "java/lang/IllegalArgumentException" zNm).filter (fun w => !goodWord w), w ∈ [Cond.castable "java/lang/IllegalArgumentException" "java/lang/IllegalArgumentException", Cond.declares (Bundle.initS "java/lang/RuntimeException"), Cond.declares (Bundle.initS "java/lang/Exception"), Cond.declares (Bundle.initS Bundle.tN)] := fun w hw => of_decide_eq_true (List.all_eq_true.mp (show ((vx_atS RX6 30 "java/lang/IllegalArgumentException" zNm).filter (fun w => !goodWord w)).all (fun w => decide (w ∈ [Cond.castable "java/lang/IllegalArgumentException" "java/lang/IllegalArgumentException", Cond.declares (Bundle.initS "java/lang/RuntimeException"), Cond.declares (Bundle.initS "java/lang/Exception"), Cond.declares (Bundle.initS Bundle.tN)])) = true from by decide +kernel) w hw)
theorem zth_in2 : ∀ w ∈ (vx_atS RX6 30 "java/lang/IllegalArgumentException" zNm).filter goodWord, w ∈ wsL_law := fun w h => List.mem_append_left _ (List.mem_append_right _ h)
theorem zth_ot3 : ∀ w ∈ Cond.classLink RX6 44 "java/lang/IllegalStateException" :: Cond.initialized "java/lang/IllegalStateException" :: vx_atS RX6 48 "java/lang/IllegalStateException" zNm, vx_ot w = true := List.all_eq_true.mp (by decide +kernel)
theorem zth_nb3 : ∀ w ∈ (vx_atS RX6 48 "java/lang/IllegalStateException" zNm).filter (fun w => !goodWord w), w ∈ [Cond.castable "java/lang/IllegalStateException" "java/lang/IllegalStateException", Cond.declares (Bundle.initS "java/lang/RuntimeException"), Cond.declares (Bundle.initS "java/lang/Exception"), Cond.declares (Bundle.initS Bundle.tN)] := fun w hw => of_decide_eq_true (List.all_eq_true.mp (show ((vx_atS RX6 48 "java/lang/IllegalStateException" zNm).filter (fun w => !goodWord w)).all (fun w => decide (w ∈ [Cond.castable "java/lang/IllegalStateException" "java/lang/IllegalStateException", Cond.declares (Bundle.initS "java/lang/RuntimeException"), Cond.declares (Bundle.initS "java/lang/Exception"), Cond.declares (Bundle.initS Bundle.tN)])) = true from by decide +kernel) w hw)
theorem zth_in3 : ∀ w ∈ (vx_atS RX6 48 "java/lang/IllegalStateException" zNm).filter goodWord, w ∈ wsL_law := fun w h => List.mem_append_right _ h
section ZXX
variable {p : Program} {l : Launch} {e : Env} {R : Room} {s : State} {mi : MethodId} {args : Array Value} {below : List Frame} {meth : Method} {c : Code} {H H0 : Heap} {locs : List Loc} {cells slots : Nat} {Q : State → Prop}
variable {cc : ByteArray} {own : String} {pc : Nat} {ls : Array Slot} {rest : List Value} {D : va_G} {cy : Nat → ClassId} {ad : ZN → Nat} {L : List ZN} {m : ZM} {n : ZN}
/-- the throw's words at hand -/
theorem zth_w (C : zX p s mi args c cc RX6 D cy) (E : zE (zA ad L s.heap.size) s s.heap) {k : Nat} (hk : k = 1 ∨ k = 2 ∨ k = 3) {ik ic : Nat} (hi : ik = (if k = 1 then 19 else if k = 2 then 26 else 44)) (hc : ic = (if k = 1 then 23 else if k = 2 then 30 else 48)) :
    (Cond.classLink RX6 ik (zEn k)).before args s = true ∧ (Cond.initialized (zEn k)).before args s = true ∧ (∀ w ∈ vx_atS RX6 ic (zEn k) zNm, w.before args s = true) ∧ (∀ w ∈ Cond.classLink RX6 ik (zEn k) :: Cond.initialized (zEn k) :: vx_atS RX6 ic (zEn k) zNm, vx_ot w = true) ∧ Bundle.fit (zEn k) = true := by
  have hts := C.2.2.1
  have hN := E.2.2.2
  rcases hk with rfl | rfl | rfl
  · obtain rfl : ik = 19 := hi
    obtain rfl : ic = 23 := hc
    exact ⟨hts _ (zr_5 _ (List.mem_of_getElem? (i := 16) rfl)), hts _ (zr_5 _ (List.mem_of_getElem? (i := 17) rfl)), vx_hat (fun w h => hts w (zth_in1 w h)) zth_nb1 (vx_c (va_Nw.use rfl (hN.1 1 (by decide))) (vx_c (va_Nw.use rfl (hN.2 _ (List.mem_of_getElem? (i := 0) rfl))) (vx_c (va_Nw.use rfl (hN.2 _ (List.mem_of_getElem? (i := 1) rfl))) (vx_c (va_Nw.use rfl (hN.2 _ (List.mem_of_getElem? (i := 2) rfl))) vx_n)))), zth_ot1, by decide +kernel⟩
  · obtain rfl : ik = 26 := hi
    obtain rfl : ic = 30 := hc
    exact ⟨hts _ (zr_5 _ (List.mem_of_getElem? (i := 18) rfl)), hts _ (zr_5 _ (List.mem_of_getElem? (i := 19) rfl)), vx_hat (fun w h => hts w (zth_in2 w h)) zth_nb2 (vx_c (va_Nw.use rfl (hN.1 2 (by decide))) (vx_c (va_Nw.use rfl (hN.2 _ (List.mem_of_getElem? (i := 0) rfl))) (vx_c (va_Nw.use rfl (hN.2 _ (List.mem_of_getElem? (i := 1) rfl))) (vx_c (va_Nw.use rfl (hN.2 _ (List.mem_of_getElem? (i := 2) rfl))) vx_n)))), zth_ot2, by decide +kernel⟩
  · obtain rfl : ik = 44 := hi
    obtain rfl : ic = 48 := hc
    exact ⟨hts _ (zr_7 _ (List.mem_of_getElem? (i := 9) rfl)), hts _ (zr_7 _ (List.mem_of_getElem? (i := 10) rfl)), vx_hat (fun w h => hts w (zth_in3 w h)) zth_nb3 (vx_c (va_Nw.use rfl (hN.1 3 (by decide))) (vx_c (va_Nw.use rfl (hN.2 _ (List.mem_of_getElem? (i := 0) rfl))) (vx_c (va_Nw.use rfl (hN.2 _ (List.mem_of_getElem? (i := 1) rfl))) (vx_c (va_Nw.use rfl (hN.2 _ (List.mem_of_getElem? (i := 2) rfl))) vx_n)))), zth_ot3, by decide +kernel⟩
/-- 'throw new E("text")' -/
theorem zthrow {mc ms : Nat} {Qc : Array Value → State → Outcome → State → Prop} {px : String → ZM → Prop} (hst : l.stackTraces = false) (C : zX p s mi args c cc RX6 D cy) (E : zE (zA ad L s.heap.size) s s.heap) (hnt : ∀ x ∈ c.exceptionTable.toList, False) (hsize : ls.size = c.maxLocals) (hlocks : meth.locks = false) (hw : zH D cy ad L s.heap H locs m)
    {k : Nat} (hk : k = 1 ∨ k = 2 ∨ k = 3) {ik ic is : Nat} {text : String} (hi : ik = (if k = 1 then 19 else if k = 2 then 26 else 44)) (hc : ic = (if k = 1 then 23 else if k = 2 then 30 else 48)) (htx : (is, text) ∈ zTx)
    (d0 : decode cc pc = .ok (.new ik, 3)) (d3 : decode cc (pc + 3) = .ok (.dup, 1)) (d4 : decode cc (pc + 4) = .ok (.ldc is, 2)) (d6 : decode cc (pc + 6) = .ok (.invokespecial ic, 3)) (d9 : decode cc (pc + 9) = .ok (.athrow, 1))
    (hR : 5 < R.frames ∧ 82 ≤ R.locals ∧ cells + 1 ≤ R.cells ∧ slots + 6 ≤ R.slots) (hcs : cells + 1 ≤ mc ∧ slots + 6 ≤ ms) (hp : px (zEn k) m) :
    W p l e R s mi args below meth c H locs cells slots (vx_MQ below Qc (zXc px D cy ad L s.heap.size) args s mc ms (zA ad L s.heap.size)) (F0 mi pc ls []) := by
  obtain ⟨h1, h2, h3, h4, h5⟩ := zth_w (ik := ik) (ic := ic) C E hk hi hc
  obtain ⟨sa, hsa⟩ := E.2.2.1 _ htx
  refine vx_throwS (own := RX6) (cls := zEn k) (text := text) (names := zNm) (sa := sa) C.1 C.2.1 hst C.2.2.2.1 h5 (by decide +kernel) h1 h2 hsa h3 h4 E.1 E.2.1 hw.2.2 hsize d0 d3 d4 d6 d9 (fun x hx => (hnt x hx).elim) hR.1 hR.2.1 hR.2.2.1 hR.2.2.2 hlocks (fun t hal hz hq => ?_) hw.2.2.2.2 hcs.1 hcs.2
  have hS2 : va_S (zA ad L s.heap.size) s.heap t.heap locs := ⟨Nat.le_trans hw.2.2.1 hz, fun q g1 g2 => by rw [hq q (Nat.lt_of_lt_of_le g1 hw.2.2.1)]; exact hw.2.2.2.1 q g1 g2, hw.2.2.2.2⟩
  exact ⟨m, trivial, ⟨hp, hw.1.kept (fun k q hk => hq _ (vx_lt hw.1 hk)), va_K.moved hal C.2.2.2.2.1, hw.2.1⟩, hS2.F rfl⟩
/-- 'throw new E("text")' -/
theorem zthrowW {mc ms : Nat} {Qc : Array Value → State → Outcome → State → Prop} {px : String → ZM → Prop} (hst : l.stackTraces = false) (C : zX p s mi args c cc RX6 D cy) (E : zE (zA ad L s.heap.size) s s.heap) (hnt : ∀ x ∈ c.exceptionTable.toList, False) (hsize : ls.size = c.maxLocals) (hlocks : meth.locks = false) (hw : zH D cy ad L s.heap H locs m)
    {k : Nat} (hk : k = 1 ∨ k = 2 ∨ k = 3) {ik ic is : Nat} {text : String} (hi : ik = (if k = 1 then 19 else if k = 2 then 26 else 44)) (hc : ic = (if k = 1 then 23 else if k = 2 then 30 else 48)) (htx : (is, text) ∈ zTx)
    (d0 : decode cc pc = .ok (.new ik, 3)) (d3 : decode cc (pc + 3) = .ok (.dup, 1)) (d4 : decode cc (pc + 4) = .ok (.ldc_w is, 3)) (d6 : decode cc (pc + 7) = .ok (.invokespecial ic, 3)) (d9 : decode cc (pc + 10) = .ok (.athrow, 1))
    (hR : 5 < R.frames ∧ 82 ≤ R.locals ∧ cells + 1 ≤ R.cells ∧ slots + 6 ≤ R.slots) (hcs : cells + 1 ≤ mc ∧ slots + 6 ≤ ms) (hp : px (zEn k) m) :
    W p l e R s mi args below meth c H locs cells slots (vx_MQ below Qc (zXc px D cy ad L s.heap.size) args s mc ms (zA ad L s.heap.size)) (F0 mi pc ls []) := by
  obtain ⟨h1, h2, h3, h4, h5⟩ := zth_w (ik := ik) (ic := ic) C E hk hi hc
  obtain ⟨sa, hsa⟩ := E.2.2.1 _ htx
  refine vx_throwSW (own := RX6) (cls := zEn k) (text := text) (names := zNm) (sa := sa) C.1 C.2.1 hst C.2.2.2.1 h5 (by decide +kernel) h1 h2 hsa h3 h4 E.1 E.2.1 hw.2.2 hsize d0 d3 d4 d6 d9 (fun x hx => (hnt x hx).elim) hR.1 hR.2.1 hR.2.2.1 hR.2.2.2 hlocks (fun t hal hz hq => ?_) hw.2.2.2.2 hcs.1 hcs.2
  have hS2 : va_S (zA ad L s.heap.size) s.heap t.heap locs := ⟨Nat.le_trans hw.2.2.1 hz, fun q g1 g2 => by rw [hq q (Nat.lt_of_lt_of_le g1 hw.2.2.1)]; exact hw.2.2.2.1 q g1 g2, hw.2.2.2.2⟩
  exact ⟨m, trivial, ⟨hp, hw.1.kept (fun k q hk => hq _ (vx_lt hw.1 hk)), va_K.moved hal C.2.2.2.2.1, hw.2.1⟩, hS2.F rfl⟩
theorem zpreX (C : zX p s mi args c cc own D cy) (E : zE (zA ad L s.heap.size) s s.heap) (hw : zH D cy ad L s.heap H locs m) {av : List Value} : ∀ U : State, U.heap = H → s.WarmedH U.vm → zPx D cy ad L m H.size av av.toArray U := fun U hU hW =>
  ⟨rfl, by rw [hU], by rw [hU]; exact hw.1, va_K.moved hW.alike C.2.2.2.2.1, hw.2.1.weaken (fun _ _ _ _ => trivial), zNw_warm hW C.2.2.2.2.2, by rw [hU]; exact zE_to hW E hw.2.2.2.1 (zhA hw).2⟩
variable {y : MethodName} {b : ByteArray} {maxL nL mc ms na index : Nat} {ret : Option FieldType} {rm : Room} {av As : List Value}
variable {Qc : Array Value → State → Outcome → State → Prop} {XC : String → State → State → Prop} {free : Addr → Prop}
theorem zrunVx (C : zX p s mi args c cc own D cy) (E : zE (zA ad L s.heap.size) s s.heap) (hml : c.maxLocals = nL) (hls : ls.size = nL) (hw : zH D cy ad L s.heap H locs m) (hn : n ∈ L) {ci : Nat} {fs : List Value} (hc : zc cy ad n (m n) = .inr (ci, fs)) {Cn : String} {T : u_T} {N : Nat} (hcl : vwCl[ci]? = some (Cn, T, N))
    (hM : vx_Met l y (zws y b maxL ret) rm (zPx D cy ad L m H.size (.ref (ad n) :: As)) Qc XC mc ms free) (hG : zGV own index Cn y b maxL ret na) (hna : As.length = na) (hrc : rm.cells = mc) (hrs : rm.slots = ms) (hR : rm.frames + 1 ≤ R.frames ∧ 8 + (maxL + 11) + rm.locals ≤ R.locals) {st : List Value} (hst : st = As.reverse ++ .ref (ad n) :: rest) (hrest : (rest.map fun v => v.category).sum ≤ 8)
    (hdg : decode cc pc = .ok (.invokevirtual index, 3)) (hf : cells + mc ≤ R.cells ∧ slots + ms ≤ R.slots) :
    vx_Run p l e R s mi args below meth c H locs cells slots mc ms (F0 mi pc ls st) rest (Qc (Value.ref (ad n) :: As).toArray) XC free :=
  vx_runV (b := ad n) (As := As) (rest := rest) (nL := nL) ⟨C.1, C.2.1, hml, C.2.2.2.1, C.2.2.1⟩ hM (cwV na C.2.2.1 hG.1 rfl hrc hrs hG.2 hR) ⟨zPx_blind, zrecv C hw hn hc hcl, zpreX C E hw⟩ rfl hna hls hst (lv_room hrest) hdg hf
theorem zrunSx (C : zX p s mi args c cc own D cy) (E : zE (zA ad L s.heap.size) s s.heap) (hml : c.maxLocals = nL) (hls : ls.size = nL) (hw : zH D cy ad L s.heap H locs m)
    (hM : vx_Met l y (zws y b maxL ret) rm (zPx D cy ad L m H.size As) Qc XC mc ms free) (hG : zGS own index y b maxL ret na) (hna : As.length = na) (hrc : rm.cells = mc) (hrs : rm.slots = ms) (hR : rm.frames + 1 ≤ R.frames ∧ 8 + (maxL + 11) + rm.locals ≤ R.locals) {st : List Value} (hst : st = As.reverse ++ rest) (hrest : (rest.map fun v => v.category).sum ≤ 8)
    (hdg : decode cc pc = .ok (.invokestatic index, 3)) (hf : cells + mc ≤ R.cells ∧ slots + ms ≤ R.slots) :
    vx_Run p l e R s mi args below meth c H locs cells slots mc ms (F0 mi pc ls st) rest (Qc As.toArray) XC free :=
  vx_runS (As := As) (rest := rest) (nL := nL) ⟨C.1, C.2.1, hml, C.2.2.2.1, C.2.2.1⟩ hM (va_cwS na C.2.2.1 hG.1 rfl hrc hrs hG.2 hR) ⟨zPx_blind, zpreX C E hw⟩ rfl hna hls hst (lv_room hrest) hdg hf
variable {st : List Value} {aa : Array Value} {mc1 ms1 : Nat}
/-- a callee's throw goes on to the caller -/
theorem zx_out {px1 : String → ZM → Prop} {Qc1 : Array Value → State → Outcome → State → Prop} (C : zX p s mi args c cc own D cy) (hnt : ∀ x ∈ c.exceptionTable.toList, False) (hlocks : meth.locks = false) (hw : zH D cy ad L s.heap H locs m) {E : String} {ce : Cell} {q : Addr} (hce : H[q]? = some ce) (hcv : ce.vm = .none) (hcl : s.vm.findClass E = some ce.cls) (hp : px1 E m) (hc : cells ≤ mc1) (hs : slots ≤ ms1) :
    vx_W p l e R s mi args below meth c H locs cells slots (vx_MQ below Qc1 (zXc px1 D cy ad L s.heap.size) args s mc1 ms1 (zA ad L s.heap.size)) (F0 mi pc ls rest) q :=
  vx_out (fun x hx => (hnt x hx).elim) hlocks hce hcv hcl (fun t ht hal => ⟨m, trivial, ⟨hp, by rw [ht]; exact hw.1, va_K.moved hal C.2.2.2.2.1, hw.2.1⟩, hw.2.2.F ht⟩) hw.2.2.2.2 hc hs
theorem zxa_v {post : ZM → Prop} {px px1 : String → ZM → Prop} {Qc1 : Array Value → State → Outcome → State → Prop} (C : zX p s mi args c cc own D cy) (hnt : ∀ x ∈ c.exceptionTable.toList, False) (hlocks : meth.locks = false) (hw : zH D cy ad L s.heap H locs m) (hr : vx_Run p l e R s mi args below meth c H locs cells slots mc ms (F0 mi pc ls st) rest (zQv post D cy ad L H.size aa) (zXc px D cy ad L H.size) (zA ad L H.size))
    (hcs : cells + mc ≤ mc1 ∧ slots + ms ≤ ms1) (hp : ∀ E u, px E u → px1 E u)
    (kk : ∀ (m1 : ZM) (H1 : Heap) (locs1 : List Loc), post m1 → zH D cy ad L s.heap H1 locs1 m1 → W p l e R s mi args below meth c H1 locs1 (cells + mc) (slots + ms) (vx_MQ below Qc1 (zXc px1 D cy ad L s.heap.size) args s mc1 ms1 (zA ad L s.heap.size)) (F0 mi (pc + 3) ls rest)) : W p l e R s mi args below meth c H locs cells slots (vx_MQ below Qc1 (zXc px1 D cy ad L s.heap.size) args s mc1 ms1 (zA ad L s.heap.size)) (F0 mi pc ls st) :=
  vx_callv hr hw.2.2 (zhA hw).1 (zhA hw).2 (zhA hw).1 (fun E ce q9 u t H1 locs1 ht _ _ hB _ _ hS hce hcv hcl => zx_out C hnt hlocks (zback C hw ht hB.2 hS) hce hcv hcl (hp E u hB.1) hcs.1 hcs.2) (fun u t H1 locs1 ht _ hpo hB _ _ hS => kk u H1 locs1 hpo (zback C hw ht hB hS))
theorem zx_callr {S SX : Type} {post : S → Prop} {px : SX → Prop} {B : S → Nat → State → Prop} {BX : String → SX → State → Prop} {A0 A1 AX : Nat → Prop} {a : Array Value} (hr : vx_Run p l e R s mi args below meth c H locs cells slots mc ms (F0 mi pc ls st) rest (va_Qr post B A1 a) (vx_X px BX AX) free) (hS : va_S A0 H0 H locs) (hA : ∀ q, q < H.size → A1 q → A0 q) (hf : ∀ q, free q → A0 q) (hAX : ∀ q, q < H.size → AX q → A0 q)
    (kx : ∀ (E : String) (ce : Cell) (q9 : Addr) (u : SX) (t : State) (H1 : Heap) (locs1 : List Loc), t.heap = H1 → s.vm.Alike t.vm → px u → BX E u t → H.size ≤ H1.size → (∀ q : Nat, q < H.size → ¬ AX q → H1[q]? = H[q]?) → va_S A0 H0 H1 locs1 → H1[q9]? = some ce → ce.vm = .none → s.vm.findClass E = some ce.cls → vx_W p l e R s mi args below meth c H1 locs1 (cells + mc) (slots + ms) Q (F0 mi pc ls rest) q9)
    (kk : ∀ (ra : Nat) (u : S) (t : State) (H1 : Heap) (locs1 : List Loc), t.heap = H1 → s.vm.Alike t.vm → post u → B u ra t → H.size ≤ H1.size → (∀ q : Nat, q < H.size → ¬ A1 q → H1[q]? = H[q]?) → va_S A0 H0 H1 locs1 → W p l e R s mi args below meth c H1 locs1 (cells + mc) (slots + ms) Q (F0 mi (pc + 3) ls (.ref ra :: rest))) : W p l e R s mi args below meth c H locs cells slots Q (F0 mi pc ls st) := by
  intro T hT X
  rcases hr T hT X with ⟨v, st₀, t, T', L1, h0, X', hL, e1, e2, ⟨⟨u, ra, hv, hp, hb⟩, hF⟩, st1⟩ | ⟨q, st₀, t, T', L1, E, ce, h0, X', hL, e1, e2, ⟨u, hp, hb, hF⟩, hce, hcv, hcl, st1⟩
  · cases hv
    obtain ⟨k1, k2, k3⟩ := vx_keep h0 e1 hS hA hf hL hF
    obtain ⟨t2, a1, b1⟩ := kk ra u t T'.heap (locs ++ L1) e1.symm (by rw [← e2]; exact X'.warmed.alike) hp hb k1 k2 k3 T' rfl X'
    exact ⟨t2, st1 t2 a1, b1⟩
  · obtain ⟨k1, k2, k3⟩ := vx_keep h0 e1 hS hAX hf hL hF
    obtain ⟨t2, a1, b1⟩ := kx E ce q u t T'.heap (locs ++ L1) e1.symm (by rw [← e2]; exact X'.warmed.alike) hp hb k1 k2 k3 (by rw [e1]; exact hce) hcv hcl T' rfl X'
    exact ⟨t2, st1.trans a1, b1⟩
theorem zxa_r {post : Nat → ZM → Prop} {px px1 : String → ZM → Prop} {Qc1 : Array Value → State → Outcome → State → Prop} (C : zX p s mi args c cc own D cy) (hnt : ∀ x ∈ c.exceptionTable.toList, False) (hlocks : meth.locks = false) (hw : zH D cy ad L s.heap H locs m) (hr : vx_Run p l e R s mi args below meth c H locs cells slots mc ms (F0 mi pc ls st) rest (zQr post D cy ad L H.size aa) (zXc px D cy ad L H.size) (zA ad L H.size))
    (hcs : cells + mc ≤ mc1 ∧ slots + ms ≤ ms1) (hp : ∀ E u, px E u → px1 E u)
    (kk : ∀ (ra : Nat) (m1 : ZM) (H1 : Heap) (locs1 : List Loc), post ra m1 → zH D cy ad L s.heap H1 locs1 m1 → W p l e R s mi args below meth c H1 locs1 (cells + mc) (slots + ms) (vx_MQ below Qc1 (zXc px1 D cy ad L s.heap.size) args s mc1 ms1 (zA ad L s.heap.size)) (F0 mi (pc + 3) ls (.ref ra :: rest))) : W p l e R s mi args below meth c H locs cells slots (vx_MQ below Qc1 (zXc px1 D cy ad L s.heap.size) args s mc1 ms1 (zA ad L s.heap.size)) (F0 mi pc ls st) :=
  zx_callr hr hw.2.2 (zhA hw).1 (zhA hw).2 (zhA hw).1 (fun E ce q9 u t H1 locs1 ht _ _ hB _ _ hS hce hcv hcl => zx_out C hnt hlocks (zback C hw ht hB.2 hS) hce hcv hcl (hp E u hB.1) hcs.1 hcs.2) (fun ra u t H1 locs1 ht _ _ hB _ _ hS => kk ra u H1 locs1 hB.1 (zback C hw ht hB.2 hS))
end ZXX

theorem zTx_21 : (21, "the hour is not 0 to 23") ∈ zTx := List.mem_of_getElem? (i := 0) rfl
theorem zTx_28 : (28, "the amount is not 0 to 900") ∈ zTx := List.mem_of_getElem? (i := 1) rfl
theorem zTx_35 : (35, "the sluice is not 0 to 20") ∈ zTx := List.mem_of_getElem? (i := 2) rfl
theorem zTx_46 : (46, "there are 4 boxes") ∈ zTx := List.mem_of_getElem? (i := 3) rfl
theorem zTx_53 : (53, "the weight is not 10 to 60") ∈ zTx := List.mem_of_getElem? (i := 4) rfl
theorem zTx_55 : (55, "the cams are not 1 to 4") ∈ zTx := List.mem_of_getElem? (i := 5) rfl
theorem zTx_62 : (62, "the box has 4 stamps") ∈ zTx := List.mem_of_getElem? (i := 6) rfl
theorem zTx_68 : (68, "there is no such stamp") ∈ zTx := List.mem_of_getElem? (i := 7) rfl
theorem zTx_79 : (79, "the feed is not 0 to 300") ∈ zTx := List.mem_of_getElem? (i := 8) rfl
theorem zTx_81 : (81, "the buddle is not 0 to 2") ∈ zTx := List.mem_of_getElem? (i := 9) rfl
theorem zTx_89 : (89, "a box tells 0 to 11") ∈ zTx := List.mem_of_getElem? (i := 10) rfl
theorem zTx_95 : (95, "the amount is not 1 to 5000") ∈ zTx := List.mem_of_getElem? (i := 11) rfl
theorem zTx_97 : (97, "the tin is not 0 to 1000") ∈ zTx := List.mem_of_getElem? (i := 12) rfl
theorem zTx_99 : (99, "the hardness is not 1 to 9") ∈ zTx := List.mem_of_getElem? (i := 13) rfl
theorem zTx_117 : (117, "there is no such lot") ∈ zTx := List.mem_of_getElem? (i := 14) rfl
theorem zTx_119 : (119, "a lot tells 0 to 2") ∈ zTx := List.mem_of_getElem? (i := 15) rfl
theorem zTx_140 : (140, "the works tell 0 to 13") ∈ zTx := List.mem_of_getElem? (i := 16) rfl
theorem zTx_149 : (149, "a buddle tells 0 to 2") ∈ zTx := List.mem_of_getElem? (i := 17) rfl
theorem zTx_156 : (156, "the water is not 10 to 90") ∈ zTx := List.mem_of_getElem? (i := 18) rfl
theorem zTx_162 : (162, "the buddle is empty") ∈ zTx := List.mem_of_getElem? (i := 19) rfl
theorem zTx_175 : (175, "the amount is less than 1") ∈ zTx := List.mem_of_getElem? (i := 20) rfl
theorem zTx_177 : (177, "there is not so much in the store") ∈ zTx := List.mem_of_getElem? (i := 21) rfl
theorem zTx_182 : (182, "what is foreseen is 0 to 4") ∈ zTx := List.mem_of_getElem? (i := 22) rfl
theorem zTx_200 : (200, "the tin is less than 0") ∈ zTx := List.mem_of_getElem? (i := 23) rfl
theorem zTx_250 : (250, "there is no such box") ∈ zTx := List.mem_of_getElem? (i := 24) rfl
theorem zTx_252 : (252, "there are 30 lots in the hopper") ∈ zTx := List.mem_of_getElem? (i := 25) rfl
theorem zTx_254 : (254, "the hours are less than 1 or too many") ∈ zTx := List.mem_of_getElem? (i := 26) rfl
theorem zTx_259 : (259, "the hour would be greater than 5000") ∈ zTx := List.mem_of_getElem? (i := 27) rfl
theorem zx_nat {x : Int32} {n : Nat} (hn : n < 2 ^ 31) (h0 : ¬ x < 0) (h1 : x < nI n) : x = nI x.toNatClampNeg ∧ x.toNatClampNeg < n := by
  obtain ⟨k, hk, rfl⟩ := nI_of h0
  rw [nI_clamp hk]
  exact ⟨rfl, zlt h1 rfl rfl hk hn⟩
theorem zx_natl {x : Int32} {a n : Nat} (ha : a < 2 ^ 31) (hn : n < 2 ^ 31) (h0 : ¬ x < nI a) (h1 : x ≤ nI n) : x = nI x.toNatClampNeg ∧ a ≤ x.toNatClampNeg ∧ x.toNatClampNeg ≤ n := by
  have h : ¬ x < 0 := fun q => h0 (by
    rw [Int32.lt_iff_toInt_lt] at q ⊢
    rw [nI_toInt ha]
    have e : (0 : Int32).toInt = 0 := rfl
    omega)
  obtain ⟨k, hk, rfl⟩ := nI_of h
  rw [nI_clamp hk]
  exact ⟨rfl, znlt h0 rfl rfl hk ha, zle h1 rfl rfl hk hn⟩
