/-! the law's wrappers: a call's answer into out, or the number of what was thrown -/
def zNcs (U : State) : Prop := va_Nc (zEn 2) (zEn 1) U ∧ va_Nc (zEn 3) (zEn 1) U ∧ va_Nc (zEn 3) (zEn 2) U ∧ va_Nc (zEn 1) (zEn 2) U
theorem zNcs_to {u U : State} (hA : u.vm.Alike U.vm) (h : zNcs u) : zNcs U := ⟨h.1.moved hA, h.2.1.moved hA, h.2.2.1.moved hA, h.2.2.2.moved hA⟩
def zPw (D : va_G) (cy : Nat → ClassId) (ad : ZN → Nat) (L : List ZN) (m : ZM) (sz : Nat) (av : List Value) : Array Value → State → Prop := va_Pc av (fun U => U.heap.size = sz ∧ va_P D vwCl (zw cy ad L m) U.heap ∧ va_K D vwCl (ztys cy) U ∧ va_D (fun _ => True) (zw cy ad L m) ∧ zNw U ∧ zE (zA ad L sz) U U.heap ∧ zNcs U)
theorem zPw_blind {D : va_G} {cy : Nat → ClassId} {ad : ZN → Nat} {L : List ZN} {m : ZM} {sz : Nat} {av : List Value} : FrameBlind (zPw D cy ad L m sz av) := fun a U g mk q => by
  obtain ⟨q0, q1, qP, qK, qD, qN, qE, qC⟩ := q
  exact ⟨q0, q1, qP, va_K.moved (u := U) (U := U.calling g mk a) (Vm.Alike.refl U.vm) qK, qD, zNw_same (u := U) (U := U.calling g mk a) rfl qN, zE_same (u := U) (U := U.calling g mk a) rfl qE, zNcs_to (u := U) (U := U.calling g mk a) (Vm.Alike.refl U.vm) qC⟩
abbrev zwsW (y : MethodName) (b : ByteArray) (maxL : Nat) (ret : Option FieldType) (hh : List (Nat × Nat × Nat × Nat)) : List Cond := Cond.codeWith y b maxL ret hh :: wsL_law
theorem zopenW {l : Launch} {y : MethodName} {b : ByteArray} {maxL : Nat} {ret : Option FieldType} {hh : List (Nat × Nat × Nat × Nat)} {rm : Room} {D : va_G} {cy : Nat → ClassId} {ad : ZN → Nat} {L : List ZN} {m : ZM} {sz : Nat} {av : List Value} {Qc : Nat → Array Value → State → Outcome → State → Prop} {mc ms : Nat} (own : String)
    (hy : plainName y.cls = true) (hown : y.cls = own) (hn : (lg_sl av).length ≤ maxL)
    (body : ∀ (p : Program) (e : Env) (s : State) (mi : MethodId) (below : List Frame) (meth : Method) (c : Code) (ls : Array Slot), zX p s mi av.toArray c b own D cy → zE (zA ad L s.heap.size) s s.heap → zNcs s → c.exceptionTable.toList = tableOf hh → meth.sig.returnType = ret → meth.locks = false → c.maxLocals = maxL → lv_has ls maxL (lv_args 0 av) → ∀ (H : Heap) (locs : List Loc), zH D cy ad L s.heap H locs m →
      W p l e rm s mi av.toArray below meth c H locs 0 0 (MQ below (Qc s.heap.size) av.toArray s mc ms (zA ad L s.heap.size)) (F0 mi 0 ls [])) :
    Met l y (zwsW y b maxL ret hh) rm (zPw D cy ad L m sz av) (Qc sz) mc ms (zA ad L sz) := by
  refine va_MetW (cc := b) (maxL := maxL) (ret := ret) (hh := hh) hy rfl ?_
  intro p e s mi args below meth c s₁ B hml hv
  obtain ⟨rfl, hsz, hP, hK, hD0, hNw, hE, hN⟩ := hv
  subst hsz
  have hts := atoms_spec (ws := zwsW y b maxL ret hh) B.pre
  have hD : va_D (zA ad L s.heap.size) (zw cy ad L m) := hD0.weaken (fun k q h _ => by
    obtain ⟨n, h1, h2⟩ := zw_mem h
    exact Or.inl ⟨n, h1, h2⟩)
  have hl := lv_entry av (n := maxL) hn
  rw [lg_entry_eq]
  have hfc : s.vm.findClass own = some mi.cls := by rw [← hown]; exact findClass_of_methodNamed B.named
  exact body p e s mi below meth c _ ⟨B.exec, B.bytes, fun w hw => hts w (List.mem_cons_of_mem _ hw), hfc, hK, hNw⟩ hE hN (vx_table (x := y) B (hts _ List.mem_cons_self)) B.returns B.notSynchronized hml hl _ _ ⟨hP, hD, va_S.rf⟩
section ZLAST
variable {p : Program} {l : Launch} {e : Env} {R : Room} {s : State} {mi : MethodId} {args : Array Value} {below : List Frame} {meth : Method} {c : Code} {H H0 : Heap} {locs : List Loc} {cells slots : Nat} {Q : State → Prop}
variable {cc : ByteArray} {own : String} {pc : Nat} {ls : Array Slot} {rest : List Value} {D : va_G} {cy : Nat → ClassId} {ad : ZN → Nat} {L : List ZN} {m : ZM}
theorem zlast (C : zX p s mi args c cc own D cy) (hw : zH D cy ad L H0 H locs m) (hn : (14, 0, 0) ∈ L) {r : Int32} (hdg : decode cc pc = .ok (.lastore, 1))
    (kk : ∀ (H1 : Heap) (locs1 : List Loc) (m1 : ZM), m1 = zs m (14, 0, 0) 0 r → zH D cy ad L H0 H1 locs1 m1 → W p l e R s mi args below meth c H1 locs1 cells slots Q (F0 mi (pc + 1) ls rest)) : W p l e R s mi args below meth c H locs cells slots Q (F0 mi pc ls (.long r.toInt64 :: .int 0 :: .ref (ad (14, 0, 0)) :: rest)) := by
  obtain ⟨hx, hb, hts, hown, hK, hNw⟩ := C
  obtain ⟨k0, hk0, h0⟩ := zw_get (cy := cy) (ad := ad) (m := m) hn
  have e : vp_updL (fun j => (m (14, 0, 0) j).toInt64) 0 r.toInt64 = fun j => (upd (m (14, 0, 0)) 0 r j).toInt64 := by
    funext j
    unfold vp_updL upd
    split <;> rfl
  refine va_last hx hb hK hw.1 hw.2.1 hw.2.2 k0 5 (f := fun j => (m (14, 0, 0) j).toInt64) (i := 0) h0 rfl (zix (x := 0) (k := 0) (N := 1) rfl (by decide) (by decide)).1 hdg (fun H1 locs1 hP hD hS => kk H1 locs1 _ rfl (zH_set (n := (14, 0, 0)) (w := upd (m (14, 0, 0)) 0 r) hw hk0 ?_ ?_ hS))
  · have e2 := hP; rw [show (0 : Int32).toNatClampNeg = 0 from rfl, e] at e2; exact e2
  · have e2 := hD; rw [show (0 : Int32).toNatClampNeg = 0 from rfl, e] at e2; exact e2
theorem zlald (C : zX p s mi args c cc own D cy) (hw : zH D cy ad L H0 H locs m) (hn : (14, 0, 0) ∈ L) (hdg : decode cc pc = .ok (.laload, 1))
    (kk : W p l e R s mi args below meth c H locs cells slots Q (F0 mi (pc + 1) ls (.long (m (14, 0, 0) 0).toInt64 :: rest))) : W p l e R s mi args below meth c H locs cells slots Q (F0 mi pc ls (.int 0 :: .ref (ad (14, 0, 0)) :: rest)) := by
  obtain ⟨hx, hb, hts, hown, hK, hNw⟩ := C
  obtain ⟨k0, -, h0⟩ := zw_get (cy := cy) (ad := ad) (m := m) hn
  exact va_lald hx hb hK hw.1 k0 5 (f := fun j => (m (14, 0, 0) j).toInt64) (i := 0) h0 rfl (zix (x := 0) (k := 0) (N := 1) rfl (by decide) (by decide)).1 hdg kk
variable {y : MethodName} {b : ByteArray} {maxL nL mc ms na index : Nat} {ret : Option FieldType} {hh : List (Nat × Nat × Nat × Nat)} {rm : Room} {As : List Value} {Qc : Array Value → State → Outcome → State → Prop} {free : Addr → Prop}
theorem zpreW (C : zX p s mi args c cc own D cy) (E : zE (zA ad L s.heap.size) s s.heap) (N : zNcs s) (hw : zH D cy ad L s.heap H locs m) {av : List Value} : ∀ U : State, U.heap = H → s.WarmedH U.vm → zPw D cy ad L m H.size av av.toArray U := fun U hU hW =>
  ⟨rfl, by rw [hU], by rw [hU]; exact hw.1, va_K.moved hW.alike C.2.2.2.2.1, hw.2.1.weaken (fun _ _ _ _ => trivial), zNw_warm hW C.2.2.2.2.2, by rw [hU]; exact zE_to hW E hw.2.2.2.1 (zhA hw).2, zNcs_to hW.alike N⟩
abbrev zGSW (own : String) (index : Nat) (y : MethodName) (b : ByteArray) (maxL : Nat) (ret : Option FieldType) (hh : List (Nat × Nat × Nat × Nat)) (na : Nat) : Prop := GoodIn wsL_law (va_wsS own index y (zwsW y b maxL ret hh)) ∧ (y.cls ≠ "java/lang/invoke/MethodHandle" ∧ y.cls ≠ "java/lang/invoke/VarHandle" ∧ (parseMethodDescriptor y.desc).map (fun d => d.parameters.length) = some na)
theorem zgsw {own : String} {idx : Nat} (h1 : Cond.methodLink own idx y ∈ wsL_law) (h2 : Cond.static y ∈ wsL_law) (h4 : Cond.initialized y.cls ∈ wsL_law) (h5 : Cond.codeWith y b maxL ret hh ∈ wsL_law) : GoodIn wsL_law (va_wsS own idx y (zwsW y b maxL ret hh)) := by
  intro w hw
  simp only [va_wsS, zwsW, List.mem_append, List.mem_cons, List.not_mem_nil, or_false] at hw
  rcases hw with (rfl | rfl | rfl) | rfl | h
  · exact zgw h1
  · exact zgw h2
  · exact zgw h4
  · exact zgw h5
  · exact zgw h
theorem zrunSW (C : zX p s mi args c cc own D cy) (E : zE (zA ad L s.heap.size) s s.heap) (N : zNcs s) (hml : c.maxLocals = nL) (hls : ls.size = nL) (hw : zH D cy ad L s.heap H locs m)
    (hM : Met l y (zwsW y b maxL ret hh) rm (zPw D cy ad L m H.size As) Qc mc ms free) (hG : zGSW own index y b maxL ret hh na) (hna : As.length = na) (hrc : rm.cells = mc) (hrs : rm.slots = ms) (hR : rm.frames + 1 ≤ R.frames ∧ 8 + (maxL + 11) + rm.locals ≤ R.locals) {st : List Value} (hst : st = As.reverse ++ rest) (hrest : (rest.map fun v => v.category).sum ≤ 8)
    (hdg : decode cc pc = .ok (.invokestatic index, 3)) (hf : cells + mc ≤ R.cells ∧ slots + ms ≤ R.slots) :
    va_Run p l e R s mi args below meth c H locs cells slots mc ms (F0 mi pc ls st) rest (Qc As.toArray) free :=
  vx_runSW (As := As) (rest := rest) (nL := nL) ⟨C.1, C.2.1, hml, C.2.2.2.1, C.2.2.1⟩ hM (vx_cwSW na C.2.2.1 hG.1 rfl hrc hrs hG.2 hR) ⟨zPw_blind, zpreW C E N hw⟩ rfl hna hls hst (lv_room hrest) hdg hf
end ZLAST
def zcd (a b c k : Nat) : Int32 := if k = a then 1 else if k = b then 2 else if k = c then 3 else 0
def zlr (a b c : Nat) (q : Z3) : Int32 × ZM := (zcd a b c q.1, if q.1 = 0 then zs q.2.2 (14, 0, 0) 0 q.2.1 else q.2.2)
theorem q6_bn_k {b : Int32} {bc : Nat} : q6_bn b bc = 0 ∨ q6_bn b bc = 1 := by
  unfold q6_bn
  split
  · simp
  · split <;> simp
theorem q6_ud_k {b : Int32} : q6_ud b = 0 ∨ q6_ud b = 1 := by
  unfold q6_ud
  split
  · simp
  · split <;> simp
theorem q6_fh_k {hn : Nat} : q6_fh hn = 0 ∨ q6_fh hn = 3 := by unfold q6_fh; split <;> simp
theorem q6_rh_k {h x : Int32} : q6_rh h x = 0 ∨ q6_rh h x = 2 := by
  unfold q6_rh
  split
  · simp
  · split <;> simp
theorem q6_lh_k {m : ZM} {h : Int32} : q6_lh m h = 0 ∨ q6_lh m h = 3 := by unfold q6_lh; split <;> simp
theorem q6_setInflow_k {m : ZM} {h x : Int32} {kx : Nat} {r : Int32} {u : ZM} (hq0 : q6_setInflow m h x = (kx, r, u)) (hk : kx ≠ 0) : kx = 1 ∨ kx = 2 := by
  unfold q6_setInflow at hq0
  repeat' split at hq0
  all_goals
    have h1 := (Prod.mk.inj hq0).1
    omega

theorem q6_setSluice_k {m : ZM} {x : Int32} {kx : Nat} {r : Int32} {u : ZM} (hq0 : q6_setSluice m x = (kx, r, u)) (hk : kx ≠ 0) : kx = 2 := by
  unfold q6_setSluice at hq0
  repeat' split at hq0
  all_goals
    have h1 := (Prod.mk.inj hq0).1
    omega

theorem q6_addBox_k {m : ZM} {bc : Nat} {kx : Nat} {r : Int32} {u : ZM} (hq0 : q6_addBox m bc = (kx, r, u)) (hk : kx ≠ 0) : kx = 3 := by
  unfold q6_addBox at hq0
  repeat' split at hq0
  all_goals
    have h1 := (Prod.mk.inj hq0).1
    omega

theorem q6_hang_k {m : ZM} {bc : Nat} {sc : Nat → Nat} {b x y : Int32} {kx : Nat} {r : Int32} {u : ZM} (hq0 : q6_hang m bc sc b x y = (kx, r, u)) (hk : kx ≠ 0) : kx = 1 ∨ kx = 2 ∨ kx = 3 := by
  have g1 := q6_bn_k (b := b) (bc := bc)
  unfold q6_hang at hq0
  repeat' split at hq0
  all_goals
    have h1 := (Prod.mk.inj hq0).1
    omega

theorem q6_shoe_k {m : ZM} {bc : Nat} {sc : Nat → Nat} {b k : Int32} {kx : Nat} {r : Int32} {u : ZM} (hq0 : q6_shoe m bc sc b k = (kx, r, u)) (hk : kx ≠ 0) : kx = 1 := by
  have g1 := q6_bn_k (b := b) (bc := bc)
  unfold q6_shoe at hq0
  repeat' split at hq0
  all_goals
    have h1 := (Prod.mk.inj hq0).1
    omega

theorem q6_setBox_k {m : ZM} {bc : Nat} {b x y : Int32} {kx : Nat} {r : Int32} {u : ZM} (hq0 : q6_setBox m bc b x y = (kx, r, u)) (hk : kx ≠ 0) : kx = 1 ∨ kx = 2 := by
  have g1 := q6_bn_k (b := b) (bc := bc)
  unfold q6_setBox at hq0
  repeat' split at hq0
  all_goals
    have h1 := (Prod.mk.inj hq0).1
    omega

theorem q6_box_k {m : ZM} {bc : Nat} {sc : Nat → Nat} {b k : Int32} {kx : Nat} {r : Int32} {u : ZM} (hq0 : q6_box m bc sc b k = (kx, r, u)) (hk : kx ≠ 0) : kx = 1 := by
  have g1 := q6_bn_k (b := b) (bc := bc)
  unfold q6_box at hq0
  repeat' split at hq0
  all_goals
    have h1 := (Prod.mk.inj hq0).1
    omega

theorem q6_bring_k {m : ZM} {fq hn : Nat} {x y z : Int32} {kx : Nat} {r : Int32} {u : ZM} (hq0 : q6_bring m fq hn x y z = (kx, r, u)) (hk : kx ≠ 0) : kx = 2 ∨ kx = 3 := by
  have g1 := q6_fh_k (hn := hn)
  unfold q6_bring at hq0
  repeat' split at hq0
  all_goals
    have h1 := (Prod.mk.inj hq0).1
    omega

theorem q6_lot_k {m : ZM} {fq hn : Nat} {i k : Int32} {kx : Nat} {r : Int32} {u : ZM} (hq0 : q6_lot m fq hn i k = (kx, r, u)) (hk : kx ≠ 0) : kx = 1 := by
  unfold q6_lot at hq0
  repeat' split at hq0
  all_goals
    have h1 := (Prod.mk.inj hq0).1
    omega

theorem q6_run_k {m : ZM} {bc hq : Nat} {sc bu : Nat → Nat} {h : Int32} {kx : Nat} {r : Int32} {u : ZM} (hq0 : q6_run m bc sc bu hq h = (kx, r, u)) (hk : kx ≠ 0) : kx = 2 ∨ kx = 3 := by
  have g1 := q6_rh_k (h := h) (x := 100)
  have g2 := q6_lh_k (m := m) (h := h)
  unfold q6_run at hq0
  repeat' split at hq0
  all_goals
    have h1 := (Prod.mk.inj hq0).1
    omega

theorem q6_count_k {m : ZM} {bc fq hn : Nat} {sc : Nat → Nat} {k : Int32} {kx : Nat} {r : Int32} {u : ZM} (hq0 : q6_count m bc sc fq hn k = (kx, r, u)) (hk : kx ≠ 0) : kx = 1 := by
  unfold q6_count at hq0
  repeat' split at hq0
  all_goals
    have h1 := (Prod.mk.inj hq0).1
    omega

theorem q6_buddle_k {m : ZM} {b k : Int32} {kx : Nat} {r : Int32} {u : ZM} (hq0 : q6_buddle m b k = (kx, r, u)) (hk : kx ≠ 0) : kx = 1 := by
  have g1 := q6_ud_k (b := b)
  unfold q6_buddle at hq0
  repeat' split at hq0
  all_goals
    have h1 := (Prod.mk.inj hq0).1
    omega

theorem q6_wash_k {m : ZM} {fq hn : Nat} {b x : Int32} {kx : Nat} {r : Int32} {u : ZM} (hq0 : q6_wash m fq hn b x = (kx, r, u)) (hk : kx ≠ 0) : kx = 1 ∨ kx = 2 ∨ kx = 3 := by
  have g1 := q6_ud_k (b := b)
  have g2 := q6_fh_k (hn := hn)
  unfold q6_wash at hq0
  repeat' split at hq0
  all_goals
    have h1 := (Prod.mk.inj hq0).1
    omega

theorem q6_again_k {m : ZM} {b : Int32} {kx : Nat} {r : Int32} {u : ZM} (hq0 : q6_again m b = (kx, r, u)) (hk : kx ≠ 0) : kx = 1 := by
  have g1 := q6_ud_k (b := b)
  unfold q6_again at hq0
  repeat' split at hq0
  all_goals
    have h1 := (Prod.mk.inj hq0).1
    omega

theorem q6_smelt_k {m : ZM} {x : Int32} {kx : Nat} {r : Int32} {u : ZM} (hq0 : q6_smelt m x = (kx, r, u)) (hk : kx ≠ 0) : kx = 2 ∨ kx = 3 := by
  unfold q6_smelt at hq0
  repeat' split at hq0
  all_goals
    have h1 := (Prod.mk.inj hq0).1
    omega

theorem q6_foresee_k {m : ZM} {bc hq fq hn : Nat} {sc : Nat → Nat} {h k : Int32} {kx : Nat} {r : Int32} {u : ZM} (hq0 : q6_foresee m bc sc hq fq hn h k = (kx, r, u)) (hk : kx ≠ 0) : kx = 1 ∨ kx = 2 ∨ kx = 3 := by
  have g1 := q6_rh_k (h := h) (x := 100)
  have g2 := q6_lh_k (m := m) (h := h)
  unfold q6_foresee at hq0
  repeat' split at hq0
  all_goals
    have h1 := (Prod.mk.inj hq0).1
    omega

theorem q6_advise_k {m : ZM} {bc hq fq hn : Nat} {sc : Nat → Nat} {h : Int32} {kx : Nat} {r : Int32} {u : ZM} (hq0 : q6_advise m bc sc hq fq hn h = (kx, r, u)) (hk : kx ≠ 0) : kx = 2 ∨ kx = 3 := by
  have g1 := q6_rh_k (h := h) (x := 48)
  have g2 := q6_lh_k (m := m) (h := h)
  unfold q6_advise at hq0
  repeat' split at hq0
  all_goals
    have h1 := (Prod.mk.inj hq0).1
    omega

theorem q6_bestWater_k {m : ZM} {b x : Int32} {kx : Nat} {r : Int32} {u : ZM} (hq0 : q6_bestWater m b x = (kx, r, u)) (hk : kx ≠ 0) : kx = 1 ∨ kx = 2 := by
  have g1 := q6_ud_k (b := b)
  unfold q6_bestWater at hq0
  repeat' split at hq0
  all_goals
    have h1 := (Prod.mk.inj hq0).1
    omega
