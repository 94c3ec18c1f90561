/-! MAKING: what constructors need, and pieces of worlds -/
def kAO (U : State) : Prop := va_AO "StampWorks$Box" U ∧ va_AO "StampWorks$Lot" U ∧ va_AO "StampWorks$Ore" U ∧ va_AO "StampWorks$Stamp" U
theorem kAO_moved {u U : State} (hA : u.vm.Alike U.vm) (h : kAO u) : kAO U := ⟨va_AO.moved hA h.1, va_AO.moved hA h.2.1, va_AO.moved hA h.2.2.1, va_AO.moved hA h.2.2.2⟩
def kA (h0 sz : Nat) : Nat → Prop := fun q => q = h0 ∨ sz ≤ q
def kPc (D : va_G) (cy : Nat → ClassId) (h0 sz ci : Nat) (fs : List Value) : Array Value → State → Prop := va_Pc [.ref h0] (fun U => U.heap.size = sz ∧ va_P D vwCl [(h0, .inr (ci, fs))] U.heap ∧ va_K D vwCl (ztys cy) U ∧ zNw U ∧ kAO U)
theorem kPc_blind {D : va_G} {cy : Nat → ClassId} {h0 sz ci : Nat} {fs : List Value} : FrameBlind (kPc D cy h0 sz ci fs) := fun a U g mk q => by
  obtain ⟨q0, q1, qP, qK, qN, qA⟩ := q
  exact ⟨q0, q1, qP, va_K.moved (u := U) (U := U.calling g mk a) (Vm.Alike.refl U.vm) qK, zNw_same (u := U) (U := U.calling g mk a) rfl qN, kAO_moved (u := U) (U := U.calling g mk a) (Vm.Alike.refl U.vm) qA⟩
abbrev kQ (D : va_G) (cy : Nat → ClassId) (h0 sz : Nat) (post : va_W → Prop) : Array Value → State → Outcome → State → Prop := va_Qv (S := va_W) post (fun Z t => va_P D vwCl Z t.heap ∧ va_K D vwCl (ztys cy) t ∧ va_D (kA h0 sz) Z) (kA h0 sz)
theorem kD_l {A : Nat → Prop} {w1 w2 : va_W} (h : va_D A (w1 ++ w2)) : va_D A w1 := by
  have g : ∀ (k : Nat) (q : Nat × va_E), w1[k]? = some q → (w1 ++ w2)[k]? = some q := fun k q hq => by
    rw [List.getElem?_append_left (List.getElem?_eq_some_iff.mp hq).1]; exact hq
  exact ⟨fun i j p q hi hj e => h.1 i j p q (g i p hi) (g j q hj) e, fun k q hk => h.2 k q (g k q hk)⟩
theorem kD_r {A : Nat → Prop} {w1 w2 : va_W} (h : va_D A (w1 ++ w2)) : va_D A w2 := by
  have g : ∀ (k : Nat) (q : Nat × va_E), w2[k]? = some q → (w1 ++ w2)[w1.length + k]? = some q := fun k q hq => by
    rw [List.getElem?_append_right (Nat.le_add_right _ _), Nat.add_sub_cancel_left]; exact hq
  exact ⟨fun i j p q hi hj e => by have := h.1 _ _ p q (g i p hi) (g j q hj) e; omega, fun k q hk => h.2 _ q (g k q hk)⟩
theorem kD_x {A : Nat → Prop} {w1 w2 : va_W} (h : va_D A (w1 ++ w2)) {p q : Nat × va_E} (hp : p ∈ w1) (hq : q ∈ w2) : p.1 ≠ q.1 := by
  obtain ⟨i, hi⟩ := List.getElem?_of_mem hp
  obtain ⟨j, hj⟩ := List.getElem?_of_mem hq
  have hl := (List.getElem?_eq_some_iff.mp hi).1
  intro e
  have := h.1 i (w1.length + j) p q (by rw [List.getElem?_append_left hl]; exact hi) (by rw [List.getElem?_append_right (Nat.le_add_right _ _), Nat.add_sub_cancel_left]; exact hj) e
  omega
theorem kD_app {A : Nat → Prop} {w1 w2 : va_W} (h1 : va_D A w1) (h2 : va_D A w2) (hx : ∀ p ∈ w1, ∀ q ∈ w2, p.1 ≠ q.1) : va_D A (w1 ++ w2) :=
  va_D.app h1 h2 (fun i j p q hi hj => hx p (List.mem_of_getElem? hi) q (List.mem_of_getElem? hj))
theorem kP_mem {D : va_G} {cl : List vw_C} {ws : va_W} {H : Heap} : va_P D cl ws H ↔ ∀ q ∈ ws, va_at D cl q H := by
  refine ⟨fun h q hq => ?_, fun h k q hk => h q (List.mem_of_getElem? hk)⟩
  obtain ⟨k, hk⟩ := List.getElem?_of_mem hq
  exact h k q hk
theorem kP_l {D : va_G} {cl : List vw_C} {w1 w2 : va_W} {H : Heap} (h : va_P D cl (w1 ++ w2) H) : va_P D cl w1 H := kP_mem.mpr (fun q hq => kP_mem.mp h q (List.mem_append_left _ hq))
theorem kP_r {D : va_G} {cl : List vw_C} {w1 w2 : va_W} {H : Heap} (h : va_P D cl (w1 ++ w2) H) : va_P D cl w2 H := kP_mem.mpr (fun q hq => kP_mem.mp h q (List.mem_append_right _ hq))
/-- a cell that was made last comes to stand ahead of the rest -/
theorem kP_swap {D : va_G} {cl : List vw_C} {X Y Z : va_W} {H : Heap} (h : va_P D cl (X ++ (Y ++ Z)) H) : va_P D cl (X ++ (Z ++ Y)) H := va_P.app (kP_l h) (va_P.app (kP_r (kP_r h)) (kP_l (kP_r h)))
theorem kD_swap {A : Nat → Prop} {X Y Z : va_W} (h : va_D A (X ++ (Y ++ Z))) : va_D A (X ++ (Z ++ Y)) :=
  kD_app (kD_l h) (kD_app (kD_r (kD_r h)) (kD_l (kD_r h)) (fun p hp q hq => (kD_x (kD_r h) hq hp).symm)) (fun p hp q hq => kD_x h hp (by
    rcases List.mem_append.mp hq with q1 | q1
    · exact List.mem_append_right _ q1
    · exact List.mem_append_left _ q1))
theorem kD_1 {A : Nat → Prop} {q : Nat × va_E} (h : A q.1) : va_D A [q] := by
  refine ⟨fun i j p r hi hj _ => ?_, fun k r hk => ?_⟩
  · have h1 := (List.getElem?_eq_some_iff.mp hi).1
    have h2 := (List.getElem?_eq_some_iff.mp hj).1
    simp at h1 h2
    omega
  · rw [List.mem_singleton.mp (List.mem_of_getElem? hk)]
    exact h
/-- a piece that a callee made out of the cell q stands beside the rest -/
theorem kjoin {A0 : Nat → Prop} {D : va_G} {cl : List vw_C} {X Z : va_W} {q : Nat} {e0 : va_E} {H H1 : Heap} (hP : va_P D cl (X ++ [(q, e0)]) H) (hD : va_D A0 (X ++ [(q, e0)])) (hA : ∀ x, H.size ≤ x → A0 x) (hk : ∀ x : Nat, x < H.size → ¬ kA q H.size x → H1[x]? = H[x]?) (hP1 : va_P D cl Z H1) (hD1 : va_D (kA q H.size) Z) : va_P D cl (X ++ Z) H1 ∧ va_D A0 (X ++ Z) := by
  have hq : A0 q := (kD_r hD).2 0 (q, e0) rfl
  have hX : ∀ p ∈ X, p.1 < H.size ∧ p.1 ≠ q := fun p hp => ⟨(kP_mem.mp hP p (List.mem_append_left _ hp)).lt, kD_x hD hp List.mem_cons_self⟩
  refine ⟨va_P.app ((kP_l hP).kept (fun k p hp => ?_)) hP1, kD_app (kD_l hD) (hD1.weaken (fun k p _ h => ?_)) (fun p hp r hr => ?_)⟩
  · obtain ⟨h1, h2⟩ := hX p (List.mem_of_getElem? hp)
    exact hk _ h1 (fun h => h.elim h2 (fun h3 => absurd h1 (Nat.not_lt.mpr h3)))
  · rcases h with h | h
    · rw [h]; exact hq
    · exact hA _ h
  · obtain ⟨h1, h2⟩ := hX p hp
    obtain ⟨k, hk⟩ := List.getElem?_of_mem hr
    rcases hD1.2 k r hk with h | h
    · rw [h]; exact h2
    · omega
section KM
variable {p : Program} {l : Launch} {e : Env} {R : Room} {s : State} {mi : MethodId} {args : Array Value} {below : List Frame} {meth : Method} {c : Code} {H : Heap} {locs : List Loc} {cells slots : Nat} {Q : State → Prop}
variable {cc : ByteArray} {own : String} {pc : Nat} {ls : Array Slot} {rest : List Value} {D : va_G} {cy : Nat → ClassId}
variable {mc ms : Nat} {st : List Value} {aa : Array Value} {A0 : Nat → Prop} {X : va_W} {q : Nat} {e0 : va_E} {post : va_W → Prop}
theorem kafter (hA : ∀ x, s.heap.size ≤ x → A0 x) (hP : va_P D vwCl (X ++ [(q, e0)]) H) (hD : va_D A0 (X ++ [(q, e0)])) (hS : va_S A0 s.heap H locs) (hr : va_Run p l e R s mi args below meth c H locs cells slots mc ms (F0 mi pc ls st) rest (kQ D cy q H.size post aa) (kA q H.size))
    (kk : ∀ (Z : va_W) (H1 : Heap) (locs1 : List Loc), post Z → va_P D vwCl (X ++ Z) H1 → va_D A0 (X ++ Z) → va_S A0 s.heap H1 locs1 → W p l e R s mi args below meth c H1 locs1 (cells + mc) (slots + ms) Q (F0 mi (pc + 3) ls rest)) : W p l e R s mi args below meth c H locs cells slots Q (F0 mi pc ls st) := by
  have hq : A0 q := (kD_r hD).2 0 (q, e0) rfl
  have hAq : ∀ x, kA q H.size x → A0 x := fun x h => h.elim (fun h1 => by rw [h1]; exact hq) (fun h1 => hA _ (Nat.le_trans hS.1 h1))
  refine va_callv hr hS (fun x _ h => hAq x h) hAq (fun Z t H1 locs1 ht _ hpo hB _ hk1 hS1 => ?_)
  obtain ⟨hP1, -, hD1⟩ := hB
  rw [ht] at hP1
  obtain ⟨g1, g2⟩ := kjoin hP hD (fun x h => hA x (Nat.le_trans hS.1 h)) hk1 hP1 hD1
  exact kk Z H1 locs1 hpo g1 g2 hS1
variable {y : MethodName} {b : ByteArray} {maxL nL na index ci : Nat} {fs : List Value} {rm : Room} {free : Addr → Prop} {Qc : Array Value → State → Outcome → State → Prop}
theorem kpre (C : zX p s mi args c cc own D cy) (A : kAO s) (hP : va_P D vwCl (X ++ [(q, .inr (ci, fs))]) H) : PreS s H (kPc D cy q H.size ci fs) [.ref q] := ⟨kPc_blind, fun U hU hW => ⟨rfl, by rw [hU], by rw [hU]; exact kP_r hP, va_K.moved hW.alike C.2.2.2.2.1, zNw_warm hW C.2.2.2.2.2, kAO_moved hW.alike A⟩⟩
abbrev kGI (own : String) (index : Nat) (y : MethodName) (b : ByteArray) (maxL : Nat) : Prop := GoodIn wsL_law (zws y b maxL none) ∧ Cond.initialized y.cls ∈ wsL_law ∧ Cond.methodLink own index y ∈ wsL_law ∧ Cond.instanceMethod y ∈ wsL_law ∧ (y.name = "<init>" ∧ y.cls ≠ "java/lang/invoke/MethodHandle" ∧ y.cls ≠ "java/lang/invoke/VarHandle" ∧ (parseMethodDescriptor y.desc).map (fun d => d.parameters.length) = some 0)
theorem kgood {y : MethodName} {b : ByteArray} {maxL : Nat} (h : Cond.code y b maxL none ∈ wsL_law) : GoodIn wsL_law (zws y b maxL none) := by
  intro w hw
  rcases List.mem_cons.mp hw with rfl | h2
  · exact zgw h
  · exact zgw h2
/-- calling a constructor -/
theorem krunI (C : zX p s mi args c cc own D cy) (A : kAO s) (hml : c.maxLocals = nL) (hls : ls.size = nL) (hP : va_P D vwCl (X ++ [(q, .inr (ci, fs))]) H) (hM : Met l y (zws y b maxL none) rm (kPc D cy q H.size ci fs) Qc mc ms free) (hG : kGI own index y b maxL) (hrc : rm.cells = mc) (hrs : rm.slots = ms) (hR : rm.frames + 1 ≤ R.frames ∧ 8 + (maxL + 11) + rm.locals ≤ R.locals) (hrest : (rest.map fun v => v.category).sum ≤ 8)
    (hdg : decode cc pc = .ok (.invokespecial index, 3)) (hf : cells + mc ≤ R.cells ∧ slots + ms ≤ R.slots) :
    va_Run p l e R s mi args below meth c H locs cells slots mc ms (F0 mi pc ls (.ref q :: rest)) rest (Qc [Value.ref q].toArray) free :=
  va_runI (b := q) (As := []) (rest := rest) (nL := nL) ⟨C.1, C.2.1, hml, C.2.2.2.1, C.2.2.1⟩ hM (cwI 0 C.2.2.1 hG.1 rfl hrc hrs (C.2.2.1 _ hG.2.1) (C.2.2.1 _ hG.2.2.1) (C.2.2.1 _ hG.2.2.2.1) hG.2.2.2.2.1 hG.2.2.2.2.2 hR) (kpre C A hP) rfl rfl hls rfl (lv_room hrest) hdg hf
abbrev kGN (own : String) (index : Nat) (y : MethodName) (b : ByteArray) (maxL : Nat) : Prop := GoodIn wsL_law (zws y b maxL none) ∧ Cond.initialized y.cls ∈ wsL_law ∧ Cond.methodLinkNest own index y "StampWorks" ∈ znestM ∧ Cond.instanceMethod y ∈ wsL_law ∧ (y.name = "<init>" ∧ y.cls ≠ "java/lang/invoke/MethodHandle" ∧ y.cls ≠ "java/lang/invoke/VarHandle" ∧ (parseMethodDescriptor y.desc).map (fun d => d.parameters.length) = some 0)
/-- .. a private one of a nest mate -/
theorem krunIN (C : zX p s mi args c cc own D cy) (A : kAO s) (hml : c.maxLocals = nL) (hls : ls.size = nL) (hP : va_P D vwCl (X ++ [(q, .inr (ci, fs))]) H) (hM : Met l y (zws y b maxL none) rm (kPc D cy q H.size ci fs) Qc mc ms free) (hG : kGN own index y b maxL) (hrc : rm.cells = mc) (hrs : rm.slots = ms) (hR : rm.frames + 1 ≤ R.frames ∧ 8 + (maxL + 11) + rm.locals ≤ R.locals) (hrest : (rest.map fun v => v.category).sum ≤ 8)
    (hdg : decode cc pc = .ok (.invokespecial index, 3)) (hf : cells + mc ≤ R.cells ∧ slots + ms ≤ R.slots) :
    va_Run p l e R s mi args below meth c H locs cells slots mc ms (F0 mi pc ls (.ref q :: rest)) rest (Qc [Value.ref q].toArray) free :=
  va_runIN (b := q) (As := []) (rest := rest) (nL := nL) (host := "StampWorks") ⟨C.1, C.2.1, hml, C.2.2.2.1, C.2.2.1⟩ hM ⟨va_cnB 0 C.2.2.1 hG.1 rfl hrc hrs (C.2.2.2.2.2.2 _ hG.2.2.1) (C.2.2.1 _ hG.2.1) hG.2.2.2.2.2 hR, hG.2.2.2.2.1, C.2.2.1 _ hG.2.2.2.1⟩ (kpre C A hP) rfl rfl hls rfl (lv_room hrest) hdg hf
end KM
/-- how a constructor is opened -/
theorem kopen {l : Launch} {y : MethodName} {b : ByteArray} {maxL : Nat} {rm : Room} {D : va_G} {cy : Nat → ClassId} {h0 sz ci : Nat} {fs : List Value} {Qc : Nat → Array Value → State → Outcome → State → Prop} {mc ms : Nat} (own : String)
    (hy : plainFor y = true) (hown : y.cls = own) (hyn : y.name = "<init>") (hn : (lg_sl [Value.ref h0]).length ≤ maxL)
    (body : ∀ (p : Program) (e : Env) (s : State) (mi : MethodId) (below : List Frame) (meth : Method) (c : Code) (ls : Array Slot), zX p s mi [Value.ref h0].toArray c b own D cy → kAO s → meth.name = "<init>" → meth.sig.returnType = none → meth.locks = false → c.maxLocals = maxL → lv_has ls maxL [(0, .ref h0)] → ∀ (H : Heap) (locs : List Loc), va_P D vwCl [(h0, .inr (ci, fs))] H → va_D (kA h0 s.heap.size) [(h0, .inr (ci, fs))] → va_S (kA h0 s.heap.size) s.heap H locs →
      W p l e rm s mi [Value.ref h0].toArray below meth c H locs 0 0 (MQ below (Qc s.heap.size) [Value.ref h0].toArray s mc ms (kA h0 s.heap.size)) (F0 mi 0 ls [])) :
    Met l y (zws y b maxL none) rm (kPc D cy h0 sz ci fs) (Qc sz) mc ms (kA h0 sz) := by
  refine zofW (cc := b) (maxL := maxL) (ret := none) hy rfl ?_
  intro p e s mi args below meth c s₁ B hml hv
  obtain ⟨rfl, hsz, hP, hK, hNw, hA⟩ := hv
  subst hsz
  have hts := atoms_spec (ws := zws y b maxL none) B.pre
  have hl := lv_entry [Value.ref h0] (n := maxL) hn
  rw [lg_entry_eq]
  have hfc : s.vm.findClass own = some mi.cls := by rw [← hown]; exact findClass_of_methodNamed B.named
  have hnm : meth.name = "<init>" := by rw [← hyn]; exact (name_of_methodNamed B.named B.method).1
  exact body p e s mi below meth c _ ⟨B.exec, B.bytes, fun w hw => hts w (List.mem_cons_of_mem _ hw), hfc, hK, hNw⟩ hA hnm B.returns B.notSynchronized hml hl _ _ hP (kD_1 (Or.inl rfl)) va_S.rf
theorem kret {p : Program} {l : Launch} {e : Env} {R : Room} {s : State} {mi : MethodId} {args : Array Value} {below : List Frame} {meth : Method} {c : Code} {H : Heap} {locs : List Loc} {cells slots : Nat} {cc : ByteArray} {own : String} {pc : Nat} {ls : Array Slot} {D : va_G} {cy : Nat → ClassId} {h0 : Nat} {Z : va_W} {post : va_W → Prop} (C : zX p s mi args c cc own D cy) (hr : meth.sig.returnType = none) (hlocks : meth.locks = false) (hP : va_P D vwCl Z H) (hD : va_D (kA h0 s.heap.size) Z) (hS : va_S (kA h0 s.heap.size) s.heap H locs) (hdg : decode cc pc = .ok (.return_, 1)) (hp : post Z) :
    W p l e R s mi args below meth c H locs cells slots (MQ below (kQ D cy h0 s.heap.size post) args s cells slots (kA h0 s.heap.size)) (F0 mi pc ls []) :=
  W.vret C.1 C.2.1 hr (fun t ht hW => ⟨⟨Z, rfl, hp, by rw [ht]; exact hP, va_K.moved hW.alike C.2.2.2.2.1, hD⟩, hS.F ht⟩) hS.2.2 hdg hlocks
/-- the class of an array that was just made -/
theorem kcyI {D : va_G} {cy : Nat → ClassId} {s : State} {cA : ClassId} (h : va_K D vwCl (ztys cy ++ [(cA, .int)]) s) : cA = cy 0 := by
  have h1 := (h.2 6 (cA, .int) rfl).2
  have h2 := (h.2 0 (cy 0, .int) rfl).2
  exact Option.some.inj (Eq.trans (Eq.symm (show s.vm.findClass _ = some cA from h1)) (show s.vm.findClass _ = some (cy 0) from h2))
theorem kcyL {D : va_G} {cy : Nat → ClassId} {s : State} {cA : ClassId} (h : va_K D vwCl (ztys cy ++ [(cA, .long)]) s) : cA = cy 5 := by
  have h1 := (h.2 6 (cA, .long) rfl).2
  have h2 := (h.2 5 (cy 5, .long) rfl).2
  exact Option.some.inj (Eq.trans (Eq.symm (show s.vm.findClass _ = some cA from h1)) (show s.vm.findClass _ = some (cy 5) from h2))
theorem kcyQ {D : va_G} {cy : Nat → ClassId} {s : State} {cA : ClassId} {C : String} (k : Nat) (hk : (ztys cy)[k]? = some (cy k, .object C)) (h : va_K D vwCl (ztys cy ++ [(cA, .object C)]) s) : cA = cy k := by
  obtain ⟨-, -, -, -, -, h1⟩ := (h.2 6 (cA, .object C) rfl).2
  obtain ⟨-, -, -, -, -, h2⟩ := (h.2 k (cy k, .object C) (by rw [List.getElem?_append_left (List.getElem?_eq_some_iff.mp hk).1]; exact hk)).2
  exact Option.some.inj (h1.symm.trans h2)
/-! the pieces that constructors make -/
abbrev kOre (a : Nat) : Nat × va_E := (a, .inr (3, [.int 0, .int 0]))
abbrev kStamp (a : Nat) : Nat × va_E := (a, .inr (4, [.int 0, .int 0, .int 0]))
def kOres (U : Nat → Nat) : Nat → va_W
  | 0 => []
  | k + 1 => kOres U k ++ [kOre (U k)]
def kStamps (U : Nat → Nat) : Nat → va_W
  | 0 => []
  | k + 1 => kStamps U k ++ [kStamp (U k)]
def kLots (La Ra : Nat → Nat) : Nat → va_W
  | 0 => []
  | k + 1 => kLots La Ra k ++ [(La k, .inr (2, [.ref (Ra k), .int 0])), kOre (Ra k)]
def kCat (B : Nat → va_W) : Nat → va_W
  | 0 => []
  | k + 1 => kCat B k ++ B k
theorem kOres_c {U V : Nat → Nat} {k : Nat} (h : ∀ j, j < k → U j = V j) : kOres U k = kOres V k := by
  induction k with
  | zero => rfl
  | succ k ih => rw [kOres, kOres, ih (fun j hj => h j (by omega)), h k (by omega)]
theorem kStamps_c {U V : Nat → Nat} {k : Nat} (h : ∀ j, j < k → U j = V j) : kStamps U k = kStamps V k := by
  induction k with
  | zero => rfl
  | succ k ih => rw [kStamps, kStamps, ih (fun j hj => h j (by omega)), h k (by omega)]
theorem kLots_c {La Ra Lb Rb : Nat → Nat} {k : Nat} (h : ∀ j, j < k → La j = Lb j ∧ Ra j = Rb j) : kLots La Ra k = kLots Lb Rb k := by
  induction k with
  | zero => rfl
  | succ k ih => rw [kLots, kLots, ih (fun j hj => h j (by omega)), (h k (by omega)).1, (h k (by omega)).2]
theorem kCat_c {B B' : Nat → va_W} {k : Nat} (h : ∀ j, j < k → B j = B' j) : kCat B k = kCat B' k := by
  induction k with
  | zero => rfl
  | succ k ih => rw [kCat, kCat, ih (fun j hj => h j (by omega)), h k (by omega)]
def kHop (cy : Nat → ClassId) (h0 : Nat) (Z : va_W) : Prop := ∃ (q1 : Nat) (f : Nat → Option Nat) (La Ra : Nat → Nat), Z = (h0, .inr (1, [.ref q1, .int 0, .int 0])) :: (q1, .inl (cy 2, 30, .inr (.inr (.inr (.inr f))))) :: kLots La Ra 30 ∧ ∀ j, j < 30 → f j = some (La j)
def kBox (cy : Nat → ClassId) (h0 : Nat) (Z : va_W) : Prop := ∃ (q1 o0 o1 o2 : Nat) (f : Nat → Option Nat) (Sa : Nat → Nat), Z = (h0, .inr (0, [.ref q1, .ref o0, .ref o1, .ref o2, .int 0, .int 50, .int 0, .int 5, .int 0])) :: (q1, .inl (cy 4, 4, .inr (.inr (.inr (.inr f))))) :: (((kStamps Sa 4 ++ [kOre o0]) ++ [kOre o1]) ++ [kOre o2]) ∧ ∀ j, j < 4 → f j = some (Sa j)
