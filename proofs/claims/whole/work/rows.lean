section
-- ===== PART A: goes FIRST, ahead of the names: the tables' words, and 'selects' of the private methods out of them =====
/-- a private method of a class that the tables say can be made, by its rows of tables_1 -/
def lw_okq (q : MethodName × Nat) : Prop := (q.1.cls ≠ "java/lang/invoke/MethodHandle" ∧ q.1.cls ≠ "java/lang/invoke/VarHandle") ∧ Cond.instantiable q.1.cls q.2 ∈ tables_1 ∧ Cond.privateMethod q.1 ∈ tables_1 ∧ Cond.instanceMethod q.1 ∈ tables_1
theorem lw_p0 : lw_okq (⟨"java/lang/Throwable", "fillInStackTrace", "(I)Ljava/lang/Throwable;"⟩, 6) := ⟨⟨by decide +kernel, by decide +kernel⟩, List.mem_of_getElem? (i := 346) (by decide +kernel), List.mem_of_getElem? (i := 344) (by decide +kernel), List.mem_of_getElem? (i := 345) (by decide +kernel)⟩
theorem lw_p1 : lw_okq (⟨"StampWorks", "boxNumbered", "(I)LStampWorks$Box;"⟩, 2) := ⟨⟨by decide +kernel, by decide +kernel⟩, List.mem_of_getElem? (i := 19) (by decide +kernel), List.mem_of_getElem? (i := 431) (by decide +kernel), List.mem_of_getElem? (i := 432) (by decide +kernel)⟩
theorem lw_p2 : lw_okq (⟨"StampWorks", "refuseFullHopper", "()V"⟩, 2) := ⟨⟨by decide +kernel, by decide +kernel⟩, List.mem_of_getElem? (i := 19) (by decide +kernel), List.mem_of_getElem? (i := 478) (by decide +kernel), List.mem_of_getElem? (i := 479) (by decide +kernel)⟩
theorem lw_p3 : lw_okq (⟨"StampWorks", "refuseLateHour", "(I)V"⟩, 2) := ⟨⟨by decide +kernel, by decide +kernel⟩, List.mem_of_getElem? (i := 19) (by decide +kernel), List.mem_of_getElem? (i := 511) (by decide +kernel), List.mem_of_getElem? (i := 512) (by decide +kernel)⟩
theorem lw_p4 : lw_okq (⟨"StampWorks", "buddleNumbered", "(I)LStampWorks$Ore;"⟩, 2) := ⟨⟨by decide +kernel, by decide +kernel⟩, List.mem_of_getElem? (i := 19) (by decide +kernel), List.mem_of_getElem? (i := 606) (by decide +kernel), List.mem_of_getElem? (i := 607) (by decide +kernel)⟩
theorem lw_p5 : lw_okq (⟨"StampWorksModel", "no", "(I)I"⟩, 7) := ⟨⟨by decide +kernel, by decide +kernel⟩, List.mem_of_getElem? (i := 719) (by decide +kernel), List.mem_of_getElem? (i := 837) (by decide +kernel), List.mem_of_getElem? (i := 838) (by decide +kernel)⟩
theorem lw_p6 : lw_okq (⟨"StampWorksModel", "isBox", "(I)Z"⟩, 7) := ⟨⟨by decide +kernel, by decide +kernel⟩, List.mem_of_getElem? (i := 719) (by decide +kernel), List.mem_of_getElem? (i := 853) (by decide +kernel), List.mem_of_getElem? (i := 854) (by decide +kernel)⟩
theorem lw_p7 : lw_okq (⟨"StampWorksModel", "boxTold", "(II)I"⟩, 7) := ⟨⟨by decide +kernel, by decide +kernel⟩, List.mem_of_getElem? (i := 719) (by decide +kernel), List.mem_of_getElem? (i := 869) (by decide +kernel), List.mem_of_getElem? (i := 870) (by decide +kernel)⟩
theorem lw_p8 : lw_okq (⟨"StampWorksModel$State", "eat", "(I)V"⟩, 18) := ⟨⟨by decide +kernel, by decide +kernel⟩, List.mem_of_getElem? (i := 725) (by decide +kernel), List.mem_of_getElem? (i := 901) (by decide +kernel), List.mem_of_getElem? (i := 902) (by decide +kernel)⟩
theorem lw_p9 : lw_okq (⟨"StampWorksModel$State", "dropLot", "()V"⟩, 18) := ⟨⟨by decide +kernel, by decide +kernel⟩, List.mem_of_getElem? (i := 725) (by decide +kernel), List.mem_of_getElem? (i := 911) (by decide +kernel), List.mem_of_getElem? (i := 912) (by decide +kernel)⟩
theorem lw_p10 : lw_okq (⟨"StampWorksModel$State", "blow", "(II)V"⟩, 18) := ⟨⟨by decide +kernel, by decide +kernel⟩, List.mem_of_getElem? (i := 725) (by decide +kernel), List.mem_of_getElem? (i := 915) (by decide +kernel), List.mem_of_getElem? (i := 916) (by decide +kernel)⟩
theorem lw_p11 : lw_okq (⟨"StampWorksModel$State", "oreOf", "(II)I"⟩, 18) := ⟨⟨by decide +kernel, by decide +kernel⟩, List.mem_of_getElem? (i := 725) (by decide +kernel), List.mem_of_getElem? (i := 919) (by decide +kernel), List.mem_of_getElem? (i := 920) (by decide +kernel)⟩
theorem lw_p12 : lw_okq (⟨"StampWorksModel", "counted", "(I)I"⟩, 7) := ⟨⟨by decide +kernel, by decide +kernel⟩, List.mem_of_getElem? (i := 719) (by decide +kernel), List.mem_of_getElem? (i := 932) (by decide +kernel), List.mem_of_getElem? (i := 933) (by decide +kernel)⟩
theorem lw_p13 : lw_okq (⟨"StampWorksModel", "tinInBoxes", "()I"⟩, 7) := ⟨⟨by decide +kernel, by decide +kernel⟩, List.mem_of_getElem? (i := 719) (by decide +kernel), List.mem_of_getElem? (i := 941) (by decide +kernel), List.mem_of_getElem? (i := 942) (by decide +kernel)⟩
theorem lw_p14 : lw_okq (⟨"StampWorksModel", "buddleTold", "(II)I"⟩, 7) := ⟨⟨by decide +kernel, by decide +kernel⟩, List.mem_of_getElem? (i := 719) (by decide +kernel), List.mem_of_getElem? (i := 949) (by decide +kernel), List.mem_of_getElem? (i := 950) (by decide +kernel)⟩
theorem lw_p15 : lw_okq (⟨"StampWorksModel", "headTin", "(II)I"⟩, 7) := ⟨⟨by decide +kernel, by decide +kernel⟩, List.mem_of_getElem? (i := 719) (by decide +kernel), List.mem_of_getElem? (i := 962) (by decide +kernel), List.mem_of_getElem? (i := 963) (by decide +kernel)⟩
def lw_privs_1 : List (MethodName × Nat) := [(⟨"java/lang/Throwable", "fillInStackTrace", "(I)Ljava/lang/Throwable;"⟩, 6), (⟨"StampWorks", "boxNumbered", "(I)LStampWorks$Box;"⟩, 2), (⟨"StampWorks", "refuseFullHopper", "()V"⟩, 2), (⟨"StampWorks", "refuseLateHour", "(I)V"⟩, 2), (⟨"StampWorks", "buddleNumbered", "(I)LStampWorks$Ore;"⟩, 2), (⟨"StampWorksModel", "no", "(I)I"⟩, 7), (⟨"StampWorksModel", "isBox", "(I)Z"⟩, 7), (⟨"StampWorksModel", "boxTold", "(II)I"⟩, 7), (⟨"StampWorksModel$State", "eat", "(I)V"⟩, 18), (⟨"StampWorksModel$State", "dropLot", "()V"⟩, 18), (⟨"StampWorksModel$State", "blow", "(II)V"⟩, 18), (⟨"StampWorksModel$State", "oreOf", "(II)I"⟩, 18), (⟨"StampWorksModel", "counted", "(I)I"⟩, 7), (⟨"StampWorksModel", "tinInBoxes", "()I"⟩, 7), (⟨"StampWorksModel", "buddleTold", "(II)I"⟩, 7), (⟨"StampWorksModel", "headTin", "(II)I"⟩, 7)]
theorem lw_r1 : ∀ q ∈ lw_privs_1, lw_okq q := List.forall_mem_cons.mpr ⟨lw_p0, List.forall_mem_cons.mpr ⟨lw_p1, List.forall_mem_cons.mpr ⟨lw_p2, List.forall_mem_cons.mpr ⟨lw_p3, List.forall_mem_cons.mpr ⟨lw_p4, List.forall_mem_cons.mpr ⟨lw_p5, List.forall_mem_cons.mpr ⟨lw_p6, List.forall_mem_cons.mpr ⟨lw_p7, List.forall_mem_cons.mpr ⟨lw_p8, List.forall_mem_cons.mpr ⟨lw_p9, List.forall_mem_cons.mpr ⟨lw_p10, List.forall_mem_cons.mpr ⟨lw_p11, List.forall_mem_cons.mpr ⟨lw_p12, List.forall_mem_cons.mpr ⟨lw_p13, List.forall_mem_cons.mpr ⟨lw_p14, List.forall_mem_cons.mpr ⟨lw_p15, fun _ h => absurd h List.not_mem_nil⟩⟩⟩⟩⟩⟩⟩⟩⟩⟩⟩⟩⟩⟩⟩⟩
theorem lw_p16 : lw_okq (⟨"StampWorksModel", "headRock", "(II)I"⟩, 7) := ⟨⟨by decide +kernel, by decide +kernel⟩, List.mem_of_getElem? (i := 719) (by decide +kernel), List.mem_of_getElem? (i := 966) (by decide +kernel), List.mem_of_getElem? (i := 967) (by decide +kernel)⟩
def lw_privs_2 : List (MethodName × Nat) := [(⟨"StampWorksModel", "headRock", "(II)I"⟩, 7)]
theorem lw_r2 : ∀ q ∈ lw_privs_2, lw_okq q := List.forall_mem_cons.mpr ⟨lw_p16, fun _ h => absurd h List.not_mem_nil⟩
def lw_privs : List (MethodName × Nat) := lw_privs_1 ++ (lw_privs_2)
def lw_tbl : List Cond := k2_sels lw_privs ++ tables_1
theorem lw_privs_ok : ∀ q ∈ lw_privs, lw_okq q := by
  show ∀ q ∈ lw_privs_1 ++ (lw_privs_2), lw_okq q
  exact List.forall_mem_append.mpr ⟨lw_r1, lw_r2⟩
/-- the streams that the claim lets the run draw from -/
abbrev lw_cs : List Choice := [Jvm.Choice.named "NaN.bits"]
theorem lw_bits : nanBits ∈ lw_cs := by first | decide | exact List.mem_cons_self | simp [lw_cs, nanBits]
end
section
/-! ===== BEGIN words of one list among another's, by their places ===== -/
theorem goodIn_r {big : List Cond} (ws : List Cond) (ps : List Nat) (hp : ws = ps.filterMap (fun i => big[i]?)) (h : ws.all goodWord = true) : GoodIn big ws := by
  intro w hw
  have h1 := List.all_eq_true.mp h w hw
  rw [hp] at hw
  obtain ⟨i, -, hi⟩ := List.mem_filterMap.mp hw
  have hm : w ∈ big := by first | exact List.mem_of_getElem? hi | exact List.getElem?_mem hi
  exact ⟨hm, good_of_word h1⟩
theorem goodIn_app {big a b : List Cond} (ha : GoodIn big a) (hb : GoodIn big b) : GoodIn big (a ++ b) := fun w h => (List.mem_append.mp h).elim (ha w) (hb w)
theorem goodIn_ca {big a b : List Cond} {c : Cond} (ha : GoodIn big (c :: a)) (hb : GoodIn big b) : GoodIn big (c :: (a ++ b)) := fun w h => (List.mem_cons.mp h).elim (fun e => ha w (List.mem_cons.mpr (Or.inl e))) (fun h => (List.mem_append.mp h).elim (fun h => ha w (List.mem_cons.mpr (Or.inr h))) (hb w))
theorem goodIn_sub {big ws : List Cond} (hm : ∀ w ∈ ws, w ∈ big) (h : ws.all goodWord = true) : GoodIn big ws := fun w hw => ⟨hm w hw, good_of_word (List.all_eq_true.mp h w hw)⟩
/-! ===== END ===== -/

/-! ===== BEGIN exceptions that leave a method, and their catching by the caller (launches without stack traces) ===== -/
section VXA
/-! The laws vx_back, vx_callV, vx_callS, vx_callSW, vx_throw0, vx_throwS follow proofs of the library, with one case more: JvmDerived/Free/Laws.lean (Back.of_free), Shelf42/LK1.lean (callV, callS), Shelf/KitTraced.lean (throwNew0V, throwNewS). -/
/-- where a method has thrown q: the class by its name, the cell, what was written, the world -/
def vx_T (XC : String → State → State → Prop) (st : State) (q : Addr) (t : State) (mc ms : Nat) (free : Addr → Prop) : Prop :=
  ∃ (E : String) (ce : Cell) (L : List Loc), XC E st t ∧ t.heap[q]? = some ce ∧ ce.vm = .none ∧ st.vm.findClass E = some ce.cls ∧ st.WarmedH t.vm ∧ st.sameButNew ({ t with vm := st.vm } : State) L mc ms ∧ ∀ z ∈ L, free z.base
def vx_Q (Qc : Array Value → State → Outcome → State → Prop) (XC : String → State → State → Prop) (mc ms : Nat) (free : Addr → Prop) : Array Value → State → Outcome → State → Prop := fun a st o t =>
  (Qc a st o t ∧ ∃ L, FrameEnd st o t L mc ms ∧ ∀ q ∈ L, free q.base) ∨ ∃ q, o = .threw q ∧ vx_T XC st q t mc ms free
/-- a callee that returns or throws -/
def vx_Met (l : Launch) (y : MethodName) (ws : List Cond) (rm : Room) (Pc : Array Value → State → Prop) (Qc : Array Value → State → Outcome → State → Prop) (XC : String → State → State → Prop) (mc ms : Nat) (free : Addr → Prop) : Prop :=
  MetFree l y (headSpec ws rm) Pc (fun _ _ _ _ _ => True) (vx_Q Qc XC mc ms free)
def vx_Post (XC : String → State → State → Prop) (mc ms : Nat) (free : Addr → Prop) : Pt → Array Value → Addr → Pt → Prop := fun A a q B =>
  ∃ (g : JFrame) (mk : MethodId) (t : State) (L : List Loc) (E : String) (ce : Cell), B.U.heap = t.heap ∧ B.U.vm = t.vm ∧ XC E (A.U.calling g mk a) t ∧ t.heap[q]? = some ce ∧ ce.vm = .none ∧ A.U.vm.findClass E = some ce.cls ∧ B.locs = A.locs ++ L ∧ (∀ z ∈ L, free z.base) ∧ B.cells = A.cells + mc ∧ B.slots = A.slots + ms
def vx_Back (l : Launch) (R : Room) (p : Program) (e : Env) (below : List Frame) (s : State) (sargs : Array Value) (y : MethodName) (len W9 : Nat)
    (Pre : Pt → Array Value → Prop) (Post : Pt → Array Value → Option Value → Pt → Prop) (PostX : Pt → Array Value → Addr → Pt → Prop) : Prop :=
  ∀ (m : MethodId) (meth : Method) (c : Code) (A : Pt) (g : JFrame) (ig : Instr) (mk : MethodId) (a : Array Value),
    Stand p l e R s m sargs below meth c A.U A.locs A.cells A.slots → g.method = m → g.locals.size = c.maxLocals → decode c.code g.pc = .ok (ig, len) →
    2 * g.monitorRoom + (g.stack.map fun v => v.category).sum ≤ W9 → A.U.methodNamed? y = some mk → Pre A a →
    (∃ (v : Option Value) (B : Pt), Stand p l e R s m sargs below meth c B.U B.locs B.cells B.slots ∧ Post A a v B ∧
      Steps p.tables e below (doInvoke e (A.U.setTop g) [] mk a).1 (B.U.setTop { g with pc := g.pc + len, stack := v.toList ++ g.stack })) ∨
    (∃ (q : Addr) (B : Pt), Stand p l e R s m sargs below meth c B.U B.locs B.cells B.slots ∧ PostX A a q B ∧
      Steps p.tables e below (doInvoke e (A.U.setTop g) [] mk a).1 ((B.U.setTop g).pushFrame (.throwing q)))
section Payer
variable {l : Launch} {R : Room} {p : Program} {e : Env} {below : List Frame} {s : State} {sargs : Array Value} {y : MethodName} {len W9 : Nat}
theorem vx_back {ws : List Cond} {rm : Room} {Pc : Array Value → State → Prop} {Qc : Array Value → State → Outcome → State → Prop} {XC : String → State → State → Prop} {mc ms : Nat} {free : Addr → Prop} {bytes : ByteArray} {maxL : Nat} {ret : Option FieldType}
    (hM : vx_Met l y ws rm Pc Qc XC mc ms free) (hblind : FrameBlind Pc) (hrc : rm.cells = mc) (hrs : rm.slots = ms)
    (hframes : rm.frames + 1 ≤ R.frames) (hlocals : W9 + (maxL + 11) + rm.locals ≤ R.locals)
    (hws : ∀ w ∈ ws, ∀ a' U, s.WarmedH U.vm → w.before a' U = true) (hcode : Cond.code y bytes maxL ret ∈ ws) (hinit : ∀ a' U, s.WarmedH U.vm → (Cond.initialized y.cls).before a' U = true) :
    vx_Back l R p e below s sargs y len W9 (PreOf R mc ms Pc) (PostOf Qc mc ms free) (vx_Post XC mc ms free) := by
  intro m meth c A g ig mk a X hg hsize hdg hW hn hp
  have h1 : (headSpec ws rm).pre.before a A.U = true := atoms_intro fun w hw => hws w hw _ _ X.warmed
  have h2 : (Cond.code y bytes maxL ret).before a A.U = true := hws _ hcode _ _ X.warmed
  have h3 : (Cond.initialized y.cls).before a A.U = true := hinit _ _ X.warmed
  have h4 : A.cells + (headSpec ws rm).room.cells ≤ R.cells := by rw [show (headSpec ws rm).room.cells = mc from hrc]; exact hp.1
  have h5 : A.slots + (headSpec ws rm).room.slots ≤ R.slots := by rw [show (headSpec ws rm).room.slots = ms from hrs]; exact hp.2.1
  have hPc : Pc a (A.U.calling g mk a) := hblind _ _ _ _ hp.2.2
  obtain ⟨U, Ls, c0, s0⟩ := A
  dsimp only [Pt.U, Pt.locs, Pt.cells, Pt.slots] at h1 h2 h3 h4 h5 X hn hPc ⊢
  obtain ⟨methY, cY, hmY, hcY, -, hlY, -, -, -, -⟩ := Cond.code_spec hn h2
  obtain ⟨kY, hkY, -⟩ := className_of_methodNamed hn
  have hinitY : kY.init = .initialized := Cond.initialized_spec (findClass_of_methodNamed hn) hkY h3
  have h : At U g.method c below := by rw [hg]; exact X.here
  have hlocals9 : W9 + (maxL + 11) + (headSpec ws rm).room.locals ≤ R.locals := hlocals
  have happ : (headSpec ws rm).appliesLoose y e.platform (U.calling g mk a) = true :=
    Spec.appliesLoose_calling (g := g) h hdg hn hkY hinitY
      (X.room_calling (g := g) (R' := (headSpec ws rm).room) hsize hmY hcY hframes (by rw [hlY]; omega) h4 h5) h1
  obtain ⟨mid, hmid⟩ := h.above
  have hfr : (U.setTop g).frames = (.java g :: mid) ++ below := by rw [State.frames_setTop' g h.top, hmid]; rfl
  obtain ⟨o, s₂, hsteps, -, hend, hq⟩ := Steps.callFree hM p X.admits X.cas X.clock (acts := []) hfr happ hPc trivial
  have hq' : vx_Q Qc XC mc ms free a (U.calling g mk a) o s₂ := hq
  rw [State.frames_setTop' g h.top] at hend
  obtain ⟨g₀, hg0⟩ := Option.isSome_iff_exists.mp h.top
  obtain ⟨r, hr⟩ := State.topJava?_eq_some.mp hg0
  have hr' : (({ U with heap := s₂.heap, slotsUsed := s₂.slotsUsed } : State).setVm s₂.vm).frames = .java g₀ :: r := hr
  rcases hq' with ⟨hqc, L, hfe, hL⟩ | ⟨q, rfl, E, ce, L, hx, hce, hcv, hcl, hW₂, hsm, hL⟩
  · obtain ⟨⟨v, rfl⟩, hW₂, e2, q2, q3, q4, q5, q6⟩ := id hfe
    have e3 : s₂ = ({ (U.calling g mk a).setFrames s₂.frames with heap := s₂.heap, slotsUsed := s₂.slotsUsed } : State).setVm s₂.vm := by
      have : s₂ = ({ s₂ with vm := (U.calling g mk a).vm } : State).setVm s₂.vm := rfl
      rw [e2] at this
      exact this
    obtain ⟨c₂, i₂, len₂, hc₂, hd₂, hf₂⟩ := hend
    have hW' : U.WarmedH s₂.vm := hW₂
    have hcc : c₂ = c := by
      have h1 : s₂.code? g.method = U.code? g.method := by
        rw [State.code?_eq, State.code?_eq, hW'.alike.method?]
      exact Option.some.inj (hc₂.symm.trans (h1.trans h.code))
    subst hcc
    have hlen : len₂ = len := by rw [hdg] at hd₂; cases hd₂; rfl
    subst hlen
    have hs₂ : s₂ = (({ U with heap := s₂.heap, slotsUsed := s₂.slotsUsed } : State).setVm s₂.vm).setTop { g with pc := g.pc + len₂, stack := v.toList ++ g.stack } := by
      refine e3.trans ?_
      rw [hf₂, State.calling_eq h.top, State.setFrames_setFrames, State.setTop_of_frames _ hr', hr]
      rfl
    have hsame : U.sameButNew ({ U with heap := s₂.heap, slotsUsed := s₂.slotsUsed } : State) L mc ms := by
      refine ⟨?_, q2, q3, q4, q5, q6⟩
      obtain ⟨t, ht, -⟩ := State.frames_cons hr
      show ({ U with heap := s₂.heap, slotsUsed := s₂.slotsUsed } : State) = { U.setFrames U.frames with heap := s₂.heap, slotsUsed := s₂.slotsUsed }
      rw [State.setFrames_self ht]
    subst hg
    refine Or.inl ⟨v, ⟨(({ U with heap := s₂.heap, slotsUsed := s₂.slotsUsed } : State).setVm s₂.vm), Ls ++ L, c0 + mc, s0 + ms⟩,
      ⟨X.admits, X.cas, X.clock, X.frames, X.room, X.hears, X.method, X.code, (X.here.setHeapUsed s₂.heap s₂.slotsUsed).setVm hW'.alike, X.tail, State.WarmedH.trans X.warmed hW', X.limits, X.bytes, X.same.trans (hsame.setVm s.vm)⟩,
      ⟨g, mk, s₂, L, rfl, rfl, hqc, rfl, hL, rfl, rfl⟩, ?_⟩
    show Steps p.tables e below _ ((({ U with heap := s₂.heap, slotsUsed := s₂.slotsUsed } : State).setVm s₂.vm).setTop { g with pc := g.pc + len₂, stack := v.toList ++ g.stack })
    rw [← hs₂]
    exact hsteps
  · obtain ⟨e2, q2, q3, q4, q5, q6⟩ := id hsm
    have e3 : s₂ = ({ (U.calling g mk a).setFrames s₂.frames with heap := s₂.heap, slotsUsed := s₂.slotsUsed } : State).setVm s₂.vm := by
      have : s₂ = ({ s₂ with vm := (U.calling g mk a).vm } : State).setVm s₂.vm := rfl
      rw [e2] at this
      exact this
    have hf₂ : s₂.frames = .throwing q :: .java g :: U.frames.tail := hend
    have hW' : U.WarmedH s₂.vm := hW₂
    have hs₂ : s₂ = ((({ U with heap := s₂.heap, slotsUsed := s₂.slotsUsed } : State).setVm s₂.vm).setTop g).pushFrame (.throwing q) := by
      refine e3.trans ?_
      rw [hf₂, State.calling_eq h.top, State.setFrames_setFrames, State.pushFrame, State.frames_setTop _ hr', State.setTop_of_frames _ hr', State.setFrames_setFrames, hr]
      rfl
    have hsame : U.sameButNew ({ U with heap := s₂.heap, slotsUsed := s₂.slotsUsed } : State) L mc ms := by
      refine ⟨?_, q2, q3, q4, q5, q6⟩
      obtain ⟨t, ht, -⟩ := State.frames_cons hr
      show ({ U with heap := s₂.heap, slotsUsed := s₂.slotsUsed } : State) = { U.setFrames U.frames with heap := s₂.heap, slotsUsed := s₂.slotsUsed }
      rw [State.setFrames_self ht]
    subst hg
    refine Or.inr ⟨q, ⟨(({ U with heap := s₂.heap, slotsUsed := s₂.slotsUsed } : State).setVm s₂.vm), Ls ++ L, c0 + mc, s0 + ms⟩,
      ⟨X.admits, X.cas, X.clock, X.frames, X.room, X.hears, X.method, X.code, (X.here.setHeapUsed s₂.heap s₂.slotsUsed).setVm hW'.alike, X.tail, State.WarmedH.trans X.warmed hW', X.limits, X.bytes, X.same.trans (hsame.setVm s.vm)⟩,
      ⟨g, mk, s₂, L, E, ce, rfl, rfl, hx, hce, hcv, hcl, rfl, hL, rfl, rfl⟩, ?_⟩
    show Steps p.tables e below _ (((({ U with heap := s₂.heap, slotsUsed := s₂.slotsUsed } : State).setVm s₂.vm).setTop g).pushFrame (.throwing q))
    rw [← hs₂]
    exact hsteps
end Payer
section Calls
variable {p : Program} {l : Launch} {e : Env} {R : Room} {s : State} {m : MethodId} {args : Array Value} {below : List Frame} {meth : Method} {c : Code} {T : State} {locs : List Loc} {cells slots : Nat}
theorem vx_callV (X : Stand p l e R s m args below meth c T locs cells slots) (hexec : p.tables.exec = Jvm.exec) {own C : String} {index : Nat} {y : MethodName} {bytes : ByteArray} {maxL : Nat} {ret : Option FieldType}
    (hown : s.vm.findClass own = some m.cls) (hlink : (Cond.methodLink own index y).before args s = true) (hinst : (Cond.instanceMethod y).before args s = true) (hsel : (Cond.selects C y y).before args s = true)
    (hcode : (Cond.code y bytes maxL ret).before args s = true) (hy : y.cls ≠ "java/lang/invoke/MethodHandle" ∧ y.cls ≠ "java/lang/invoke/VarHandle")
    {W9 : Nat} {Pre : Pt → Array Value → Prop} {Post : Pt → Array Value → Option Value → Pt → Prop} {PostX : Pt → Array Value → Addr → Pt → Prop} (hK : vx_Back l R p e below s args y 3 W9 Pre Post PostX)
    {b : Addr} {cellB : Cell} (hcell : T.heap[b]? = some cellB) (hobj : cellB.vm.isStatics = false) (hcls : s.vm.findClass C = some cellB.cls)
    {g : JFrame} (hg : g.method = m) (hsize : g.locals.size = c.maxLocals) {argsL rest : List Value} (hlen : ∀ sig, parseMethodDescriptor y.desc = some sig → argsL.length = sig.parameters.length)
    (hstack : g.stack = argsL.reverse ++ .ref b :: rest) (hW : 2 * g.monitorRoom + (rest.map fun v => v.category).sum ≤ W9) (hdg : decode c.code g.pc = .ok (.invokevirtual index, 3))
    (hpre : ∀ vm₁, s.WarmedH vm₁ → Pre ⟨T.setVm vm₁, locs, cells, slots⟩ (Value.ref b :: argsL).toArray) :
    (∃ (v : Option Value) (vm₁ : Vm) (B : Pt), s.WarmedH vm₁ ∧ Stand p l e R s m args below meth c B.U B.locs B.cells B.slots ∧ Post ⟨T.setVm vm₁, locs, cells, slots⟩ (Value.ref b :: argsL).toArray v B ∧
      ∀ target, Steps p.tables e below (B.U.setTop { g with pc := g.pc + 3, stack := v.toList ++ rest }) target → Steps p.tables e below (T.setTop g) target) ∨
    (∃ (q : Addr) (vm₁ : Vm) (B : Pt), s.WarmedH vm₁ ∧ Stand p l e R s m args below meth c B.U B.locs B.cells B.slots ∧ PostX ⟨T.setVm vm₁, locs, cells, slots⟩ (Value.ref b :: argsL).toArray q B ∧
      Steps p.tables e below (T.setTop g) ((B.U.setTop { g with stack := rest }).pushFrame (.throwing q))) := by
  obtain ⟨mk, methM, hnamed, hmethM, hstM, habM⟩ := Cond.instanceMethod_spec hinst
  obtain ⟨methM', cM, hmethM', -, -, -, -, -, -, hsigM⟩ := Cond.code_spec hnamed hcode
  cases hmethM.symm.trans hmethM'
  obtain ⟨c2, r2, m2, q1, q2, q3, q4, kP, hkP, hkPi⟩ := Cond.selects_spec hsel
  cases hcls.symm.trans q1
  cases (State.methodFound?_of_named hnamed hy).symm.trans q2
  cases hnamed.symm.trans q3
  have hselP : selectMethod e.platform s.vm cellB.cls mk = .method mk := by rw [Launch.admits_selectMethod X.admits]; exact q4
  obtain ⟨vm₁, X₁, hstep₁⟩ := X.invokevirtual hexec hown hlink hnamed hmethM hstM hkP hkPi hy (a := b) (cell := cellB) hcell
    (fun z h => by rw [h] at hobj; cases hobj) hselP hmethM habM hkP hkPi (g := g) hg (argsL := argsL) (rest := rest) (hlen _ hsigM) hstack hdg
  rcases hK m meth c ⟨T.setVm vm₁, locs, cells, slots⟩ { g with stack := rest } (.invokevirtual index) mk (Value.ref b :: argsL).toArray X₁ hg hsize hdg hW (X₁.named hnamed) (hpre vm₁ X₁.warmed) with ⟨v, B, X', hpost, hsteps⟩ | ⟨q, B, X', hpost, hsteps⟩
  · exact Or.inl ⟨v, vm₁, B, X₁.warmed, X', hpost, fun target h => hstep₁ _ fun acts => by rw [doInvoke_state]; exact hsteps.trans h⟩
  · exact Or.inr ⟨q, vm₁, B, X₁.warmed, X', hpost, hstep₁ _ fun acts => by rw [doInvoke_state]; exact hsteps⟩
theorem vx_callS (X : Stand p l e R s m args below meth c T locs cells slots) (hexec : p.tables.exec = Jvm.exec) {own : String} {index : Nat} {y : MethodName} {bytes : ByteArray} {maxL : Nat} {ret : Option FieldType}
    (hown : s.vm.findClass own = some m.cls) (hlink : (Cond.methodLink own index y).before args s = true) (hstat : (Cond.static y).before args s = true) (hinit : (Cond.initialized y.cls).before args s = true)
    (hcode : (Cond.code y bytes maxL ret).before args s = true) (hy : y.cls ≠ "java/lang/invoke/MethodHandle" ∧ y.cls ≠ "java/lang/invoke/VarHandle")
    {W9 : Nat} {Pre : Pt → Array Value → Prop} {Post : Pt → Array Value → Option Value → Pt → Prop} {PostX : Pt → Array Value → Addr → Pt → Prop} (hK : vx_Back l R p e below s args y 3 W9 Pre Post PostX)
    {g : JFrame} (hg : g.method = m) (hsize : g.locals.size = c.maxLocals) {argsL rest : List Value} (hlen : ∀ sig, parseMethodDescriptor y.desc = some sig → argsL.length = sig.parameters.length)
    (hstack : g.stack = argsL.reverse ++ rest) (hW : 2 * g.monitorRoom + (rest.map fun v => v.category).sum ≤ W9) (hdg : decode c.code g.pc = .ok (.invokestatic index, 3))
    (hpre : ∀ vm₁, s.WarmedH vm₁ → Pre ⟨T.setVm vm₁, locs, cells, slots⟩ argsL.toArray) :
    (∃ (v : Option Value) (vm₁ : Vm) (B : Pt), s.WarmedH vm₁ ∧ Stand p l e R s m args below meth c B.U B.locs B.cells B.slots ∧ Post ⟨T.setVm vm₁, locs, cells, slots⟩ argsL.toArray v B ∧
      ∀ target, Steps p.tables e below (B.U.setTop { g with pc := g.pc + 3, stack := v.toList ++ rest }) target → Steps p.tables e below (T.setTop g) target) ∨
    (∃ (q : Addr) (vm₁ : Vm) (B : Pt), s.WarmedH vm₁ ∧ Stand p l e R s m args below meth c B.U B.locs B.cells B.slots ∧ PostX ⟨T.setVm vm₁, locs, cells, slots⟩ argsL.toArray q B ∧
      Steps p.tables e below (T.setTop g) ((B.U.setTop { g with stack := rest }).pushFrame (.throwing q))) := by
  obtain ⟨mk, hnamed⟩ := Cond.code_named hcode
  obtain ⟨methM, cM, hmethM, -, -, -, -, -, -, hsigM⟩ := Cond.code_spec hnamed hcode
  have hstatic : methM.isStatic = true := Cond.static_spec hnamed hmethM hstat
  obtain ⟨kP, hkP, -⟩ := className_of_methodNamed hnamed
  have hinitP : kP.init = .initialized := Cond.initialized_spec (findClass_of_methodNamed hnamed) hkP hinit
  obtain ⟨vm₁, X₁, hstep₁⟩ := X.invokestatic hexec hown hlink hnamed hmethM hstatic hkP hinitP hy (g := g) hg (argsL := argsL) (rest := rest) (hlen _ hsigM) hstack hdg
  rcases hK m meth c ⟨T.setVm vm₁, locs, cells, slots⟩ { g with stack := rest } (.invokestatic index) mk argsL.toArray X₁ hg hsize hdg hW (X₁.named hnamed) (hpre vm₁ X₁.warmed) with ⟨v, B, X', hpost, hsteps⟩ | ⟨q, B, X', hpost, hsteps⟩
  · exact Or.inl ⟨v, vm₁, B, X₁.warmed, X', hpost, fun target h => hstep₁ _ fun acts => by rw [doInvoke_state]; exact hsteps.trans h⟩
  · exact Or.inr ⟨q, vm₁, B, X₁.warmed, X', hpost, hstep₁ _ fun acts => by rw [doInvoke_state]; exact hsteps⟩
end Calls
theorem vx_cls {s : State} {T : State} {vm₁ : Vm} {E : String} {k : ClassId} (hW : s.WarmedH vm₁) (h : (T.setVm vm₁).vm.findClass E = some k) : s.vm.findClass E = some k := by
  have h1 : vm₁.findClass E = some k := h
  rw [hW.alike.findClass] at h1
  exact h1
/-- the method's frame g, with q thrown over it -/
def vx_W (p : Program) (l : Launch) (e : Env) (R : Room) (s : State) (m : MethodId) (args : Array Value) (below : List Frame) (meth : Method) (c : Code) (H : Heap) (locs : List Loc) (cells slots : Nat) (Q : State → Prop) (g : JFrame) (q : Addr) : Prop :=
  ∀ T : State, T.heap = H → Stand p l e R s m args below meth c T locs cells slots → ∃ t, Steps p.tables e below ((T.setTop g).pushFrame (.throwing q)) t ∧ Q t
def vx_Run (p : Program) (l : Launch) (e : Env) (R : Room) (s : State) (m : MethodId) (args : Array Value) (below : List Frame) (meth : Method) (c : Code) (H : Heap) (locs : List Loc) (cells slots mc ms : Nat) (g : JFrame) (rest : List Value) (Qa : State → Outcome → State → Prop) (XC : String → State → State → Prop) (free : Addr → Prop) : Prop :=
  ∀ T : State, T.heap = H → Stand p l e R s m args below meth c T locs cells slots →
    (∃ (v : Option Value) (st₀ t T' : State) (L : List Loc), st₀.heap = H ∧ Stand p l e R s m args below meth c T' (locs ++ L) (cells + mc) (slots + ms) ∧ (∀ q ∈ L, free q.base) ∧ T'.heap = t.heap ∧ T'.vm = t.vm ∧ Qa st₀ (.returned v) t ∧
      Goes p e below T g T' { g with pc := g.pc + 3, stack := v.toList ++ rest }) ∨
    (∃ (q : Addr) (st₀ t T' : State) (L : List Loc) (E : String) (ce : Cell), st₀.heap = H ∧ Stand p l e R s m args below meth c T' (locs ++ L) (cells + mc) (slots + ms) ∧ (∀ z ∈ L, free z.base) ∧ T'.heap = t.heap ∧ T'.vm = t.vm ∧ XC E st₀ t ∧ t.heap[q]? = some ce ∧ ce.vm = .none ∧ s.vm.findClass E = some ce.cls ∧
      Steps p.tables e below (T.setTop g) ((T'.setTop { g with stack := rest }).pushFrame (.throwing q)))
def vx_X {S : Type} (px : S → Prop) (B : String → S → State → Prop) (A : Nat → Prop) : String → State → State → Prop := fun E st t => ∃ u : S, px u ∧ B E u t ∧ va_F A st t
section Runs
variable {p : Program} {l : Launch} {e : Env} {R : Room} {s : State} {m : MethodId} {args : Array Value} {below : List Frame} {meth : Method} {c : Code} {H : Heap} {locs : List Loc} {cells slots : Nat}
variable {y : MethodName} {bytes cc : ByteArray} {maxL nL mc ms n index : Nat} {ret : Option FieldType} {ws : List Cond} {rm : Room} {Pc : Array Value → State → Prop} {Qc : Array Value → State → Outcome → State → Prop} {XC : String → State → State → Prop} {free : Addr → Prop} {Ts : List Cond} {own C : String} {b : Addr} {As rest : List Value} {g : JFrame}
theorem vx_callBack (cb : CallB R s args own index y bytes maxL ret ws rm mc ms n) (hM : vx_Met l y ws rm Pc Qc XC mc ms free) (hbl : FrameBlind Pc) : vx_Back l R p e below s args y 3 8 (PreOf R mc ms Pc) (PostOf Qc mc ms free) (vx_Post XC mc ms free) := by
  obtain ⟨hrc, hrs, hfr, hlo, hws, hcw, -, hini, -⟩ := cb
  exact vx_back (bytes := bytes) (maxL := maxL) (ret := ret) hM hbl hrc hrs hfr hlo hws hcw (fun a' U hW => word_at hW (Or.inl (by first | rfl | simp [Cond.onTables, Cond.keeps, Cond.steady])) hini)
theorem vx_runV (S : CallFix p m c cc nL s args Ts own) (hM : vx_Met l y ws rm Pc Qc XC mc ms free) (cw : CallW R s args own C index y bytes maxL ret ws rm mc ms n) (hp : PreV s H C b Pc As)
    (hg : g.method = m) (hn : As.length = n) (hsize : g.locals.size = nL) (hstack : g.stack = As.reverse ++ .ref b :: rest) (hW : 2 * g.monitorRoom + (rest.map fun v => v.category).sum ≤ 8) (hdg : decode cc g.pc = .ok (.invokevirtual index, 3)) (hf : cells + mc ≤ R.cells ∧ slots + ms ≤ R.slots) :
    vx_Run p l e R s m args below meth c H locs cells slots mc ms g rest (Qc (Value.ref b :: As).toArray) XC free := by
  have hK : vx_Back l R p e below s args y 3 8 (PreOf R mc ms Pc) (PostOf Qc mc ms free) (vx_Post XC mc ms free) := vx_callBack cw.1 hM hp.1
  obtain ⟨⟨-, -, -, -, -, -, hcode, -, hy, hlen, hl⟩, hin, hse⟩ := cw
  obtain ⟨hx, hb, hml, ho, -⟩ := S
  obtain ⟨-, ⟨cellB, hcB, hoB, hclB⟩, hPc⟩ := hp
  intro T hT X
  rcases vx_callV X hx (C := C) (bytes := bytes) (maxL := maxL) (ret := ret) ho hl hin hse hcode hy hK (by rw [hT]; exact hcB) hoB hclB hg (hsize.trans hml.symm) (argsL := As) (rest := rest) (fun sig h => hn.trans (hlen sig h)) hstack hW (by rw [hb]; exact hdg)
    (fun vm₁ hW₁ => ⟨hf.1, hf.2, hPc (T.setVm vm₁) hT hW₁⟩) with ⟨v, vm₁, ⟨U', l2, c2, s2⟩, hW₁, X', ⟨g', mk, t, L, e1, e2, hq, h1, hL, h2, h3⟩, st⟩ | ⟨q, vm₁, ⟨U', l2, c2, s2⟩, hW₁, X', ⟨g', mk, t, L, E, ce, e1, e2, hq, hce, hcv, hcl, h1, hL, h2, h3⟩, st⟩
  · dsimp only [Pt.U, Pt.locs, Pt.cells, Pt.slots] at X' e1 e2 h1 h2 h3 st
    subst h1; subst h2; subst h3
    exact Or.inl ⟨v, (T.setVm vm₁).calling g' mk (Value.ref b :: As).toArray, t, U', L, hT, X', hL, e1, e2, hq, st⟩
  · dsimp only [Pt.U, Pt.locs, Pt.cells, Pt.slots] at X' e1 e2 h1 h2 h3 st hcl
    subst h1; subst h2; subst h3
    exact Or.inr ⟨q, (T.setVm vm₁).calling g' mk (Value.ref b :: As).toArray, t, U', L, E, ce, hT, X', hL, e1, e2, hq, hce, hcv, vx_cls hW₁ hcl, st⟩
theorem vx_runS (S : CallFix p m c cc nL s args Ts own) (hM : vx_Met l y ws rm Pc Qc XC mc ms free) (cw : CallB R s args own index y bytes maxL ret ws rm mc ms n ∧ (Cond.static y).before args s = true) (hp : PreS s H Pc As)
    (hg : g.method = m) (hn : As.length = n) (hsize : g.locals.size = nL) (hstack : g.stack = As.reverse ++ rest) (hW : 2 * g.monitorRoom + (rest.map fun v => v.category).sum ≤ 8) (hdg : decode cc g.pc = .ok (.invokestatic index, 3)) (hf : cells + mc ≤ R.cells ∧ slots + ms ≤ R.slots) :
    vx_Run p l e R s m args below meth c H locs cells slots mc ms g rest (Qc As.toArray) XC free := by
  have hK : vx_Back l R p e below s args y 3 8 (PreOf R mc ms Pc) (PostOf Qc mc ms free) (vx_Post XC mc ms free) := vx_callBack cw.1 hM hp.1
  obtain ⟨⟨-, -, -, -, -, -, hcode, hini, hy, hlen, hl⟩, hstt⟩ := cw
  obtain ⟨hx, hb, hml, ho, -⟩ := S
  intro T hT X
  rcases vx_callS X hx (bytes := bytes) (maxL := maxL) (ret := ret) ho hl hstt hini hcode hy hK hg (hsize.trans hml.symm) (argsL := As) (rest := rest) (fun sig h => hn.trans (hlen sig h)) hstack hW (by rw [hb]; exact hdg)
    (fun vm₁ hW₁ => ⟨hf.1, hf.2, hp.2 (T.setVm vm₁) hT hW₁⟩) with ⟨v, vm₁, ⟨U', l2, c2, s2⟩, hW₁, X', ⟨g', mk, t, L, e1, e2, hq, h1, hL, h2, h3⟩, st⟩ | ⟨q, vm₁, ⟨U', l2, c2, s2⟩, hW₁, X', ⟨g', mk, t, L, E, ce, e1, e2, hq, hce, hcv, hcl, h1, hL, h2, h3⟩, st⟩
  · dsimp only [Pt.U, Pt.locs, Pt.cells, Pt.slots] at X' e1 e2 h1 h2 h3 st
    subst h1; subst h2; subst h3
    exact Or.inl ⟨v, (T.setVm vm₁).calling g' mk As.toArray, t, U', L, hT, X', hL, e1, e2, hq, st⟩
  · dsimp only [Pt.U, Pt.locs, Pt.cells, Pt.slots] at X' e1 e2 h1 h2 h3 st hcl
    subst h1; subst h2; subst h3
    exact Or.inr ⟨q, (T.setVm vm₁).calling g' mk As.toArray, t, U', L, E, ce, hT, X', hL, e1, e2, hq, hce, hcv, vx_cls hW₁ hcl, st⟩
end Runs
section Rows
variable {p : Program} {l : Launch} {e : Env} {R : Room} {s : State} {m : MethodId} {args : Array Value} {below : List Frame} {meth : Method} {c : Code} {H : Heap} {locs : List Loc} {cells slots : Nat} {Q : State → Prop}
variable {mc ms : Nat} {free : Addr → Prop} {A0 A1 : Nat → Prop} {H0 : Heap} {a : Array Value} {pc : Nat} {ls : Array Slot} {st0 rest : List Value}
theorem vx_keep {st₀ t T' : State} {L : List Loc} (h0 : st₀.heap = H) (e1 : T'.heap = t.heap) (hS : va_S A0 H0 H locs) (hA : ∀ q, q < H.size → A1 q → A0 q) (hf : ∀ q, free q → A0 q) (hL : ∀ q ∈ L, free q.base) (hF : va_F A1 st₀ t) :
    H.size ≤ T'.heap.size ∧ (∀ q : Nat, q < H.size → ¬ A1 q → T'.heap[q]? = H[q]?) ∧ va_S A0 H0 T'.heap (locs ++ L) := by
  obtain ⟨hz, hk⟩ := hF
  rw [h0] at hz hk
  exact ⟨by rw [e1]; exact hz, fun q h1 h2 => by rw [e1]; exact hk q h1 h2,
    ⟨Nat.le_trans hS.1 (by rw [e1]; exact hz), fun q h1 h2 => by rw [e1, hk q (Nat.lt_of_lt_of_le h1 hS.1) (fun z => h2 (hA q (Nat.lt_of_lt_of_le h1 hS.1) z))]; exact hS.2.1 q h1 h2, fun q hq => by
      rcases List.mem_append.mp hq with h | h
      · exact hS.2.2 q h
      · exact hf _ (hL q h)⟩⟩
theorem vx_calli {S SX : Type} {post : Int32 → S → Prop} {px : SX → Prop} {B : S → State → Prop} {BX : String → SX → State → Prop} {AX : Nat → Prop} (hr : vx_Run p l e R s m args below meth c H locs cells slots mc ms (F0 m pc ls st0) rest (va_Qi post B A1 a) (vx_X px BX AX) free) (hS : va_S A0 H0 H locs) (hA : ∀ q, q < H.size → A1 q → A0 q) (hf : ∀ q, free q → A0 q) (hAX : ∀ q, q < H.size → AX q → A0 q)
    (kx : ∀ (E : String) (ce : Cell) (q9 : Addr) (u : SX) (t : State) (H1 : Heap) (locs1 : List Loc), t.heap = H1 → s.vm.Alike t.vm → px u → BX E u t → H.size ≤ H1.size → (∀ q : Nat, q < H.size → ¬ AX q → H1[q]? = H[q]?) → va_S A0 H0 H1 locs1 → H1[q9]? = some ce → ce.vm = .none → s.vm.findClass E = some ce.cls → vx_W p l e R s m args below meth c H1 locs1 (cells + mc) (slots + ms) Q (F0 m pc ls rest) q9)
    (kk : ∀ (r : Int32) (u : S) (t : State) (H1 : Heap) (locs1 : List Loc), t.heap = H1 → s.vm.Alike t.vm → post r u → B u t → H.size ≤ H1.size → (∀ q : Nat, q < H.size → ¬ A1 q → H1[q]? = H[q]?) → va_S A0 H0 H1 locs1 → W p l e R s m args below meth c H1 locs1 (cells + mc) (slots + ms) Q (F0 m (pc + 3) ls (.int r :: rest))) : W p l e R s m args below meth c H locs cells slots Q (F0 m pc ls st0) := by
  intro T hT X
  rcases hr T hT X with ⟨v, st₀, t, T', L, h0, X', hL, e1, e2, ⟨⟨r, u, hv, hp, hb⟩, hF⟩, st⟩ | ⟨q, st₀, t, T', L, E, ce, h0, X', hL, e1, e2, ⟨u, hp, hb, hF⟩, hce, hcv, hcl, st⟩
  · cases hv
    obtain ⟨k1, k2, k3⟩ := vx_keep h0 e1 hS hA hf hL hF
    obtain ⟨t2, a1, b1⟩ := kk r u t T'.heap (locs ++ L) e1.symm (by rw [← e2]; exact X'.warmed.alike) hp hb k1 k2 k3 T' rfl X'
    exact ⟨t2, st t2 a1, b1⟩
  · obtain ⟨k1, k2, k3⟩ := vx_keep h0 e1 hS hAX hf hL hF
    obtain ⟨t2, a1, b1⟩ := kx E ce q u t T'.heap (locs ++ L) e1.symm (by rw [← e2]; exact X'.warmed.alike) hp hb k1 k2 k3 (by rw [e1]; exact hce) hcv hcl T' rfl X'
    exact ⟨t2, st.trans a1, b1⟩
theorem vx_calll {S SX : Type} {post : Int64 → S → Prop} {px : SX → Prop} {B : S → State → Prop} {BX : String → SX → State → Prop} {AX : Nat → Prop} (hr : vx_Run p l e R s m args below meth c H locs cells slots mc ms (F0 m pc ls st0) rest (va_Ql post B A1 a) (vx_X px BX AX) free) (hS : va_S A0 H0 H locs) (hA : ∀ q, q < H.size → A1 q → A0 q) (hf : ∀ q, free q → A0 q) (hAX : ∀ q, q < H.size → AX q → A0 q)
    (kx : ∀ (E : String) (ce : Cell) (q9 : Addr) (u : SX) (t : State) (H1 : Heap) (locs1 : List Loc), t.heap = H1 → s.vm.Alike t.vm → px u → BX E u t → H.size ≤ H1.size → (∀ q : Nat, q < H.size → ¬ AX q → H1[q]? = H[q]?) → va_S A0 H0 H1 locs1 → H1[q9]? = some ce → ce.vm = .none → s.vm.findClass E = some ce.cls → vx_W p l e R s m args below meth c H1 locs1 (cells + mc) (slots + ms) Q (F0 m pc ls rest) q9)
    (kk : ∀ (r : Int64) (u : S) (t : State) (H1 : Heap) (locs1 : List Loc), t.heap = H1 → s.vm.Alike t.vm → post r u → B u t → H.size ≤ H1.size → (∀ q : Nat, q < H.size → ¬ A1 q → H1[q]? = H[q]?) → va_S A0 H0 H1 locs1 → W p l e R s m args below meth c H1 locs1 (cells + mc) (slots + ms) Q (F0 m (pc + 3) ls (.long r :: rest))) : W p l e R s m args below meth c H locs cells slots Q (F0 m pc ls st0) := by
  intro T hT X
  rcases hr T hT X with ⟨v, st₀, t, T', L, h0, X', hL, e1, e2, ⟨⟨r, u, hv, hp, hb⟩, hF⟩, st⟩ | ⟨q, st₀, t, T', L, E, ce, h0, X', hL, e1, e2, ⟨u, hp, hb, hF⟩, hce, hcv, hcl, st⟩
  · cases hv
    obtain ⟨k1, k2, k3⟩ := vx_keep h0 e1 hS hA hf hL hF
    obtain ⟨t2, a1, b1⟩ := kk r u t T'.heap (locs ++ L) e1.symm (by rw [← e2]; exact X'.warmed.alike) hp hb k1 k2 k3 T' rfl X'
    exact ⟨t2, st t2 a1, b1⟩
  · obtain ⟨k1, k2, k3⟩ := vx_keep h0 e1 hS hAX hf hL hF
    obtain ⟨t2, a1, b1⟩ := kx E ce q u t T'.heap (locs ++ L) e1.symm (by rw [← e2]; exact X'.warmed.alike) hp hb k1 k2 k3 (by rw [e1]; exact hce) hcv hcl T' rfl X'
    exact ⟨t2, st.trans a1, b1⟩
theorem vx_callf {S SX : Type} {post : UInt32 → S → Prop} {px : SX → Prop} {B : S → State → Prop} {BX : String → SX → State → Prop} {AX : Nat → Prop} (hr : vx_Run p l e R s m args below meth c H locs cells slots mc ms (F0 m pc ls st0) rest (va_Qf post B A1 a) (vx_X px BX AX) free) (hS : va_S A0 H0 H locs) (hA : ∀ q, q < H.size → A1 q → A0 q) (hf : ∀ q, free q → A0 q) (hAX : ∀ q, q < H.size → AX q → A0 q)
    (kx : ∀ (E : String) (ce : Cell) (q9 : Addr) (u : SX) (t : State) (H1 : Heap) (locs1 : List Loc), t.heap = H1 → s.vm.Alike t.vm → px u → BX E u t → H.size ≤ H1.size → (∀ q : Nat, q < H.size → ¬ AX q → H1[q]? = H[q]?) → va_S A0 H0 H1 locs1 → H1[q9]? = some ce → ce.vm = .none → s.vm.findClass E = some ce.cls → vx_W p l e R s m args below meth c H1 locs1 (cells + mc) (slots + ms) Q (F0 m pc ls rest) q9)
    (kk : ∀ (r : UInt32) (u : S) (t : State) (H1 : Heap) (locs1 : List Loc), t.heap = H1 → s.vm.Alike t.vm → post r u → B u t → H.size ≤ H1.size → (∀ q : Nat, q < H.size → ¬ A1 q → H1[q]? = H[q]?) → va_S A0 H0 H1 locs1 → W p l e R s m args below meth c H1 locs1 (cells + mc) (slots + ms) Q (F0 m (pc + 3) ls (.float r :: rest))) : W p l e R s m args below meth c H locs cells slots Q (F0 m pc ls st0) := by
  intro T hT X
  rcases hr T hT X with ⟨v, st₀, t, T', L, h0, X', hL, e1, e2, ⟨⟨r, u, hv, hp, hb⟩, hF⟩, st⟩ | ⟨q, st₀, t, T', L, E, ce, h0, X', hL, e1, e2, ⟨u, hp, hb, hF⟩, hce, hcv, hcl, st⟩
  · cases hv
    obtain ⟨k1, k2, k3⟩ := vx_keep h0 e1 hS hA hf hL hF
    obtain ⟨t2, a1, b1⟩ := kk r u t T'.heap (locs ++ L) e1.symm (by rw [← e2]; exact X'.warmed.alike) hp hb k1 k2 k3 T' rfl X'
    exact ⟨t2, st t2 a1, b1⟩
  · obtain ⟨k1, k2, k3⟩ := vx_keep h0 e1 hS hAX hf hL hF
    obtain ⟨t2, a1, b1⟩ := kx E ce q u t T'.heap (locs ++ L) e1.symm (by rw [← e2]; exact X'.warmed.alike) hp hb k1 k2 k3 (by rw [e1]; exact hce) hcv hcl T' rfl X'
    exact ⟨t2, st.trans a1, b1⟩
theorem vx_calld {S SX : Type} {post : UInt64 → S → Prop} {px : SX → Prop} {B : S → State → Prop} {BX : String → SX → State → Prop} {AX : Nat → Prop} (hr : vx_Run p l e R s m args below meth c H locs cells slots mc ms (F0 m pc ls st0) rest (va_Qd post B A1 a) (vx_X px BX AX) free) (hS : va_S A0 H0 H locs) (hA : ∀ q, q < H.size → A1 q → A0 q) (hf : ∀ q, free q → A0 q) (hAX : ∀ q, q < H.size → AX q → A0 q)
    (kx : ∀ (E : String) (ce : Cell) (q9 : Addr) (u : SX) (t : State) (H1 : Heap) (locs1 : List Loc), t.heap = H1 → s.vm.Alike t.vm → px u → BX E u t → H.size ≤ H1.size → (∀ q : Nat, q < H.size → ¬ AX q → H1[q]? = H[q]?) → va_S A0 H0 H1 locs1 → H1[q9]? = some ce → ce.vm = .none → s.vm.findClass E = some ce.cls → vx_W p l e R s m args below meth c H1 locs1 (cells + mc) (slots + ms) Q (F0 m pc ls rest) q9)
    (kk : ∀ (r : UInt64) (u : S) (t : State) (H1 : Heap) (locs1 : List Loc), t.heap = H1 → s.vm.Alike t.vm → post r u → B u t → H.size ≤ H1.size → (∀ q : Nat, q < H.size → ¬ A1 q → H1[q]? = H[q]?) → va_S A0 H0 H1 locs1 → W p l e R s m args below meth c H1 locs1 (cells + mc) (slots + ms) Q (F0 m (pc + 3) ls (.double r :: rest))) : W p l e R s m args below meth c H locs cells slots Q (F0 m pc ls st0) := by
  intro T hT X
  rcases hr T hT X with ⟨v, st₀, t, T', L, h0, X', hL, e1, e2, ⟨⟨r, u, hv, hp, hb⟩, hF⟩, st⟩ | ⟨q, st₀, t, T', L, E, ce, h0, X', hL, e1, e2, ⟨u, hp, hb, hF⟩, hce, hcv, hcl, st⟩
  · cases hv
    obtain ⟨k1, k2, k3⟩ := vx_keep h0 e1 hS hA hf hL hF
    obtain ⟨t2, a1, b1⟩ := kk r u t T'.heap (locs ++ L) e1.symm (by rw [← e2]; exact X'.warmed.alike) hp hb k1 k2 k3 T' rfl X'
    exact ⟨t2, st t2 a1, b1⟩
  · obtain ⟨k1, k2, k3⟩ := vx_keep h0 e1 hS hAX hf hL hF
    obtain ⟨t2, a1, b1⟩ := kx E ce q u t T'.heap (locs ++ L) e1.symm (by rw [← e2]; exact X'.warmed.alike) hp hb k1 k2 k3 (by rw [e1]; exact hce) hcv hcl T' rfl X'
    exact ⟨t2, st.trans a1, b1⟩
theorem vx_callv {S SX : Type} {post : S → Prop} {px : SX → Prop} {B : S → State → Prop} {BX : String → SX → State → Prop} {AX : Nat → Prop} (hr : vx_Run p l e R s m args below meth c H locs cells slots mc ms (F0 m pc ls st0) rest (va_Qv post B A1 a) (vx_X px BX AX) free) (hS : va_S A0 H0 H locs) (hA : ∀ q, q < H.size → A1 q → A0 q) (hf : ∀ q, free q → A0 q) (hAX : ∀ q, q < H.size → AX q → A0 q)
    (kx : ∀ (E : String) (ce : Cell) (q9 : Addr) (u : SX) (t : State) (H1 : Heap) (locs1 : List Loc), t.heap = H1 → s.vm.Alike t.vm → px u → BX E u t → H.size ≤ H1.size → (∀ q : Nat, q < H.size → ¬ AX q → H1[q]? = H[q]?) → va_S A0 H0 H1 locs1 → H1[q9]? = some ce → ce.vm = .none → s.vm.findClass E = some ce.cls → vx_W p l e R s m args below meth c H1 locs1 (cells + mc) (slots + ms) Q (F0 m pc ls rest) q9)
    (kk : ∀ (u : S) (t : State) (H1 : Heap) (locs1 : List Loc), t.heap = H1 → s.vm.Alike t.vm → post u → B u t → H.size ≤ H1.size → (∀ q : Nat, q < H.size → ¬ A1 q → H1[q]? = H[q]?) → va_S A0 H0 H1 locs1 → W p l e R s m args below meth c H1 locs1 (cells + mc) (slots + ms) Q (F0 m (pc + 3) ls (rest))) : W p l e R s m args below meth c H locs cells slots Q (F0 m pc ls st0) := by
  intro T hT X
  rcases hr T hT X with ⟨v, st₀, t, T', L, h0, X', hL, e1, e2, ⟨⟨u, hv, hp, hb⟩, hF⟩, st⟩ | ⟨q, st₀, t, T', L, E, ce, h0, X', hL, e1, e2, ⟨u, hp, hb, hF⟩, hce, hcv, hcl, st⟩
  · cases hv
    obtain ⟨k1, k2, k3⟩ := vx_keep h0 e1 hS hA hf hL hF
    obtain ⟨t2, a1, b1⟩ := kk u t T'.heap (locs ++ L) e1.symm (by rw [← e2]; exact X'.warmed.alike) hp hb k1 k2 k3 T' rfl X'
    exact ⟨t2, st t2 a1, b1⟩
  · obtain ⟨k1, k2, k3⟩ := vx_keep h0 e1 hS hAX hf hL hF
    obtain ⟨t2, a1, b1⟩ := kx E ce q u t T'.heap (locs ++ L) e1.symm (by rw [← e2]; exact X'.warmed.alike) hp hb k1 k2 k3 (by rw [e1]; exact hce) hcv hcl T' rfl X'
    exact ⟨t2, st.trans a1, b1⟩
/-- caught by the row x of this method's table; the rows ahead don't take it -/
theorem vx_catch {own name : String} {E : String} {ce : Cell} {q : Addr} (hown : s.vm.findClass own = some m.cls) (pre : List ExceptionTableEntry) (x : ExceptionTableEntry) (suf : List ExceptionTableEntry) (hsplit : c.exceptionTable.toList = pre ++ x :: suf)
    (hpass : ∀ z ∈ pre, covers z pc = false ∨ (z.catchType ≠ 0 ∧ ∃ nm : String, (Cond.classLink own z.catchType nm).before args s = true ∧ va_Nc E nm s)) (hx : covers x pc = true) (h0 : x.catchType ≠ 0)
    (hlink : (Cond.classLink own x.catchType name).before args s = true) (hcast : (Cond.castable E name).before args s = true) (hcell : H[q]? = some ce) (hv : ce.vm = .none) (hcl : s.vm.findClass E = some ce.cls)
    (kk : W p l e R s m args below meth c H locs cells slots Q (F0 m x.handlerPc ls [.ref q])) : vx_W p l e R s m args below meth c H locs cells slots Q (F0 m pc ls rest) q := by
  intro T hT X
  have hpl : e.platform.magicAccessors = ({} : Platform).magicAccessors := by rw [X.admits.platform]
  obtain ⟨c3, c4, hc3, hc4, hasg⟩ := Cond.castable_spec hcast
  cases Option.some.inj (hc3.symm.trans hcl)
  obtain ⟨c5, hc5, hcl5⟩ := Cond.classLink_spec hown hlink e.platform hpl
  cases Option.some.inj (hc4.symm.trans hc5)
  obtain ⟨vm', X', st⟩ := X.thenCaughtThrough q (g := F0 m pc ls rest) rfl (Steps.refl _) (by rw [hT]; exact hcell) (by rw [hv]; rfl) (by obtain ⟨k9, h9, -⟩ := Vm.findClass_spec hcl; exact ⟨k9, h9⟩) pre x suf hsplit
    (fun z hz => by
      rcases hpass z hz with h | ⟨hz0, nm, hl1, hn1⟩
      · exact Or.inl h
      · obtain ⟨c6, hc6, hcl6⟩ := Cond.classLink_spec hown hl1 e.platform hpl
        obtain ⟨a8, b8, h1, h2, h3⟩ := hn1
        cases Option.some.inj (h1.symm.trans hcl)
        cases Option.some.inj (h2.symm.trans hc6)
        exact Or.inr ⟨hz0, _, hcl6, h3⟩) hx (Or.inr ⟨h0, c4, hcl5, hasg⟩)
  obtain ⟨t, a1, b1⟩ := kk (T.setVm vm') hT X'
  exact ⟨t, st.trans a1, b1⟩
end Rows
section Ends
variable {p : Program} {l : Launch} {e : Env} {R : Room} {s : State} {m : MethodId} {args : Array Value} {below : List Frame} {meth : Method} {c : Code} {H : Heap} {locs : List Loc} {cells slots : Nat} {Q : State → Prop}
variable {mc ms : Nat} {free : Addr → Prop} {A0 A1 : Nat → Prop} {H0 : Heap} {a : Array Value} {ls : Array Slot} {st0 rest : List Value}
variable {Qc : Array Value → State → Outcome → State → Prop} {XC : String → State → State → Prop}
/-- what a body that may throw owes at its end -/
def vx_MQ (below : List Frame) (Qc : Array Value → State → Outcome → State → Prop) (XC : String → State → State → Prop) (a : Array Value) (s : State) (mc ms : Nat) (free : Addr → Prop) : State → Prop := fun t =>
  ∃ o, t.status = .running ∧ Ended t below o ∧ vx_Q Qc XC mc ms free a s o t
theorem vx_ret {g : JFrame} {mc ms : Nat} (k : W p l e R s m args below meth c H locs cells slots (MQ below Qc args s mc ms free) g) : W p l e R s m args below meth c H locs cells slots (vx_MQ below Qc XC args s mc ms free) g := by
  intro T hT X
  obtain ⟨t, a1, o, b1, b2, b3, b4⟩ := k T hT X
  exact ⟨t, a1, o, b1, b2, Or.inl ⟨b3, b4⟩⟩
/-- not caught here: it goes on to the caller -/
theorem vx_widen {g : JFrame} {q : Addr} {k n : Nat} (h1 : cells ≤ k) (h2 : slots ≤ n) (kk : vx_W p l e R s m args below meth c H locs k n Q g q) : vx_W p l e R s m args below meth c H locs cells slots Q g q := fun T hT X => kk T hT (stand_widen X h1 h2)
theorem vx_out {pc : Nat} {E : String} {ce : Cell} {q : Addr} {mc ms : Nat} (hout : ∀ x ∈ c.exceptionTable.toList, covers x pc = false) (hlocks : meth.locks = false) (hcell : H[q]? = some ce) (hv : ce.vm = .none) (hcl : s.vm.findClass E = some ce.cls)
    (hx : ∀ t : State, t.heap = H → s.vm.Alike t.vm → XC E s t) (hf : ∀ z ∈ locs, free z.base) (hc : cells ≤ mc) (hs : slots ≤ ms) :
    vx_W p l e R s m args below meth c H locs cells slots (vx_MQ below Qc XC args s mc ms free) (F0 m pc ls rest) q := by
  intro T hT X
  obtain ⟨st1, hrun, hend, hW, hsm⟩ := X.leaveThrown q (g := F0 m pc ls rest) rfl rfl rfl hout hlocks
  have hcell9 : (T.setFrames (.throwing q :: below)).heap[q]? = some ce := by
    show T.heap[q]? = some ce
    rw [hT]; exact hcell
  exact ⟨_, st1, .threw q, hrun, hend, Or.inr ⟨q, rfl, E, ce, locs, hx _ hT hW.alike, hcell9, hv, hcl, hW, hsm.mono hc hs, hf⟩⟩
theorem vx_frame {U : State} {k n : Nat} (h : s.sameButNew ({ U with vm := s.vm } : State) locs k n) : s.heap.size ≤ U.heap.size ∧ ∀ q : Nat, q < s.heap.size → (∀ z ∈ locs, z.base ≠ q) → U.heap[q]? = s.heap[q]? := by
  obtain ⟨-, h2, -, -, -, h6⟩ := h
  refine ⟨h2, fun q hq hz => ?_⟩
  obtain ⟨c9, e1, e2, e3, e4⟩ := h6 q _ (Array.getElem?_eq_getElem hq)
  have hs : c9.slots = (s.heap[q]).slots := Array.ext_getElem? fun i => e4 i fun hm => hz _ hm rfl
  have h9 : c9 = s.heap[q] := by
    rw [hs] at e2
    exact e2
  have e5 : U.heap[q]? = some c9 := e1
  rw [e5, h9, Array.getElem?_eq_getElem hq]
/-- the words of a throw but the four that speak of the heap -/
def vx_no (w : Cond) : Bool := decide (w ≠ .isRef (.static Bundle.tN "UNASSIGNED_STACK" Bundle.steD)) && decide (w ≠ .isRef (.static Bundle.tN "SUPPRESSED_SENTINEL" Bundle.listD)) && decide (w ≠ .laysStatic Bundle.tN "UNASSIGNED_STACK" Bundle.steD) && decide (w ≠ .laysStatic Bundle.tN "SUPPRESSED_SENTINEL" Bundle.listD)
def vx_at0 (own : String) (ic : Nat) (X : String) (names : List String) : List Cond := (Bundle.ownAtoms0 own ic X names).filter vx_no
def vx_atS (own : String) (ic : Nat) (X : String) (names : List String) : List Cond := (Bundle.ownAtoms own ic X names).filter vx_no
/-- a word that the tables alone decide, or a good one -/
def vx_ot (w : Cond) : Bool := w.onTables || goodWord w
theorem vx_ot_at {args a' : Array Value} {s U : State} {w : Cond} (hW : s.WarmedH U.vm) (hvm : s.vm = U.vm) (hg : vx_ot w = true) (h : w.before args s = true) : w.before a' U = true := by
  simp only [vx_ot, Bool.or_eq_true] at hg
  rcases hg with hg | hg
  · exact va_tabs hg hvm h
  · exact word_at hW (good_of_word hg) h
/-- a list's words: the good ones out of the method's own list, the others by premises of their own -/
theorem vx_hat {args : Array Value} {s : State} {L B : List Cond} (h1 : ∀ w ∈ L.filter goodWord, w.before args s = true) (h2 : ∀ w ∈ L.filter (fun w => !goodWord w), w ∈ B) (h3 : ∀ w ∈ B, w.before args s = true) : ∀ w ∈ L, w.before args s = true := by
  intro w hw
  by_cases g : goodWord w = true
  · exact h1 w (List.mem_filter.mpr ⟨hw, g⟩)
  · refine h3 w (h2 w (List.mem_filter.mpr ⟨hw, ?_⟩))
    show (!goodWord w) = true
    cases hgw : goodWord w
    · rfl
    · exact absurd hgw g
theorem vx_c {args : Array Value} {s : State} {w : Cond} {B : List Cond} (h : w.before args s = true) (t : ∀ w ∈ B, w.before args s = true) : ∀ w' ∈ w :: B, w'.before args s = true := fun w' h' => (List.mem_cons.mp h').elim (fun e => by rw [e]; exact h) (t w')
theorem vx_n {args : Array Value} {s : State} : ∀ w ∈ ([] : List Cond), w.before args s = true := fun _ h => nomatch h
theorem vx_own {args : Array Value} {s : State} {L : List Cond} (h1 : ∀ w ∈ L.filter vx_no, w.before args s = true)
    (hU : (Cond.isRef (.static Bundle.tN "UNASSIGNED_STACK" Bundle.steD)).before args s = true) (hN : (Cond.isRef (.static Bundle.tN "SUPPRESSED_SENTINEL" Bundle.listD)).before args s = true)
    (lU : (Cond.laysStatic Bundle.tN "UNASSIGNED_STACK" Bundle.steD).before args s = true) (lN : (Cond.laysStatic Bundle.tN "SUPPRESSED_SENTINEL" Bundle.listD).before args s = true) : ∀ w ∈ L, w.before args s = true := by
  intro w hw
  by_cases e1 : w = .isRef (.static Bundle.tN "UNASSIGNED_STACK" Bundle.steD)
  · rw [e1]; exact hU
  · by_cases e2 : w = .isRef (.static Bundle.tN "SUPPRESSED_SENTINEL" Bundle.listD)
    · rw [e2]; exact hN
    · by_cases e3 : w = .laysStatic Bundle.tN "UNASSIGNED_STACK" Bundle.steD
      · rw [e3]; exact lU
      · by_cases e4 : w = .laysStatic Bundle.tN "SUPPRESSED_SENTINEL" Bundle.listD
        · rw [e4]; exact lN
        · exact h1 w (List.mem_filter.mpr ⟨hw, by unfold vx_no; rw [decide_eq_true e1, decide_eq_true e2, decide_eq_true e3, decide_eq_true e4]; rfl⟩)
/-- where a static field lies, its class's statics cell in H -/
def vx_L (C n d : String) (A : Nat → Prop) (U : State) (H : Heap) : Prop := ∃ (c : ClassId) (k : Class) (i : Nat) (f : Field) (a : Nat) (cell : Cell), U.vm.findClass C = some c ∧ U.fieldFound? C n d = some (c, k, i, f) ∧ f.isStatic = true ∧ k.statics = some a ∧ H[a]? = some cell ∧ cell.vm.isStatics = true ∧ cell.cls = c ∧ f.slot < cell.slots.size ∧ k.staticTypes[f.slot]? = some f.type ∧ ¬ A a
theorem vx_L.moved {C n d : String} {A : Nat → Prop} {u U : State} {H : Heap} (hvm : u.vm.Alike U.vm) (h : vx_L C n d A u H) : vx_L C n d A U H := by
  obtain ⟨c, k, i, f, a, cell, h1, h2, h3, h4, h5, h6, h7, h8, h9, h10⟩ := h
  obtain ⟨k', hi', he⟩ := State.fieldFound?_setVm hvm h2
  exact ⟨c, k', i, f, a, cell, by rw [hvm.findClass]; exact h1, hi', h3, by rw [he]; exact h4, h5, h6, h7, h8, by rw [he]; exact h9, h10⟩
theorem vx_L.kept {C n d : String} {A : Nat → Prop} {U : State} {H H1 : Heap} (h : vx_L C n d A U H) (hq : ∀ a : Nat, a < H.size → ¬ A a → H1[a]? = H[a]?) : vx_L C n d A U H1 := by
  obtain ⟨c, k, i, f, a, cell, h1, h2, h3, h4, h5, h6, h7, h8, h9, h10⟩ := h
  exact ⟨c, k, i, f, a, cell, h1, h2, h3, h4, by rw [hq a (Array.getElem?_eq_some_iff.mp h5).1 h10]; exact h5, h6, h7, h8, h9, h10⟩
theorem vx_L.narrow {C n d : String} {A B : Nat → Prop} {U : State} {H : Heap} (h : vx_L C n d A U H) (hAB : ∀ q, B q → A q) : vx_L C n d B U H := by
  obtain ⟨c, k, i, f, a, cell, h1, h2, h3, h4, h5, h6, h7, h8, h9, h10⟩ := h
  exact ⟨c, k, i, f, a, cell, h1, h2, h3, h4, h5, h6, h7, h8, h9, fun z => h10 (hAB _ z)⟩
theorem vx_L.word {C n d : String} {A : Nat → Prop} {s : State} {args : Array Value} (h : vx_L C n d A s s.heap) : (Cond.laysStatic C n d).before args s = true := by
  obtain ⟨c, k, i, f, a, cell, h1, h2, h3, h4, h5, h6, h7, h8, h9, -⟩ := h
  show (Cond.laysStatic C n d).holds args s none s [] = true
  exact Cond.laysStatic_of h1 h2 h3 h4 h5 h6 h7 h8 h9
/-- .. and what it holds: null or some reference -/
def vx_Zq (C n d : String) (A : Nat → Prop) (U : State) (H : Heap) : Prop := va_Zq C n d A U H ∧ vx_L C n d A U H
theorem vx_Zq.moved {C n d : String} {A : Nat → Prop} {u U : State} {H : Heap} (hvm : u.vm.Alike U.vm) (h : vx_Zq C n d A u H) : vx_Zq C n d A U H := ⟨va_Zq.moved hvm h.1, vx_L.moved hvm h.2⟩
theorem vx_Zq.kept {C n d : String} {A : Nat → Prop} {U : State} {H H1 : Heap} (h : vx_Zq C n d A U H) (hq : ∀ a : Nat, a < H.size → ¬ A a → H1[a]? = H[a]?) : vx_Zq C n d A U H1 := ⟨va_Zq.kept h.1 hq, vx_L.kept h.2 hq⟩
theorem vx_Zq.narrow {C n d : String} {A B : Nat → Prop} {U : State} {H : Heap} (h : vx_Zq C n d A U H) (hAB : ∀ q, B q → A q) : vx_Zq C n d B U H := ⟨va_Zq.narrow h.1 hAB, vx_L.narrow h.2 hAB⟩
theorem vx_Zqof {args : Array Value} {s : State} {C n d : String} {A : Nat → Prop} (hl : (Cond.laysStatic C n d).before args s = true) (hini : (Cond.initialized C).before args s = true) (h : (Cond.isRef (.static C n d)).before args s = true) (hA : ∀ a : Nat, a < s.heap.size → ¬ A a) : vx_Zq C n d A s s.heap := by
  refine ⟨va_Zqof hl hini h hA, ?_⟩
  obtain ⟨c, k, i, f, a, cell, h1, h2, h3, h4, h5, h6, h7, h8, h9⟩ := Cond.laysStatic_spec hl
  exact ⟨c, k, i, f, a, cell, h1, h2, h3, h4, h5, h6, h7, h8, h9, hA a (Array.getElem?_eq_some_iff.mp h5).1⟩
theorem vx_isRef {C n d : String} {v : Value} {A : Nat → Prop} {s : State} {args : Array Value} (h : va_Z C n d v A s s.heap) (hv : v.isRef = true) : (Cond.isRef (.static C n d)).before args s = true := by
  obtain ⟨cf, kf, fi, f, a, cell, h1, h2, h3, h4, h5, h6, h7, -⟩ := h
  have he : (Term.static C n d).eval args s none [] s = some v := by
    simp [Term.eval, State.fieldNamed?, h1, h2, h4, h5, h6, h7]
  simp only [Cond.before, Cond.holds, Cond.value, he]
  cases v <;> simp_all [Value.isRef]
theorem vx_isRefq {C n d : String} {A : Nat → Prop} {s : State} {args : Array Value} (h : va_Zq C n d A s s.heap) : (Cond.isRef (.static C n d)).before args s = true := by
  rcases h with h | ⟨t, h⟩
  · exact vx_isRef h rfl
  · exact vx_isRef h rfl
/-- the same frame, seen from here: as if the method were called anew in this heap -/
theorem vx_rebase {T : State} (X : Stand p l e R s m args below meth c T locs cells slots) {R' : Room} (hf : R'.frames ≤ R.frames) (hl : R'.locals ≤ R.locals) (hc : cells + R'.cells ≤ R.cells) (hs : slots + R'.slots ≤ R.slots) :
    Stand p l e R' ((T.setVm s.vm).setFrames (.invoking m args :: below)) m args below meth c T [] 0 0 := by
  have htop : (T.setVm s.vm).topJava?.isSome := X.here.top
  have hF : ((T.setVm s.vm).setFrames (.invoking m args :: below)).frames = .invoking m args :: below := State.frames_setFrames _ (State.cur_lt_of_top htop)
  obtain ⟨g₀, hg0⟩ := Option.isSome_iff_exists.mp htop
  obtain ⟨r, hr⟩ := State.topJava?_eq_some.mp hg0
  have hl9 : e.platform.stackLimits (T.setVm s.vm).me = e.platform.stackLimits s.me := X.limits
  have hb9 : (T.setVm s.vm).me.stackBytes = s.me.stackBytes := X.bytes
  refine ⟨X.admits, X.cas, X.clock, hF, ?_, X.hears, X.method, X.code, X.here, X.tail, X.warmed, ?_, ?_, ?_⟩
  · have h := X.room
    have hU : ((T.setVm s.vm).setFrames (.invoking m args :: below)).localsInUse = s.localsInUse := by
      rw [State.localsInUse_invoking hF (meth := meth) (c := c) X.method X.code, State.localsInUse_invoking X.frames X.method X.code]
    simp only [State.hasRoom, Bool.and_eq_true, decide_eq_true_eq] at h ⊢
    obtain ⟨⟨⟨⟨h1, h2, h3, h4, h5, h6⟩, h7⟩, h8⟩, h9⟩ := h
    rw [X.frames, List.length_cons] at h2 h3
    have q1 := X.heapSize
    have q2 := X.used
    simp only [hF, hU, List.length_cons, State.stackLimits_setFrames, State.stackBytes_setFrames, hl9, hb9]
    refine ⟨⟨⟨⟨by omega, by omega, by omega, by omega, by omega, h6⟩, ?_⟩, ?_⟩, X.book⟩
    · show T.heap.size + R'.cells ≤ e.platform.maxCells
      omega
    · show T.slotsUsed + R'.slots ≤ e.platform.maxSlots
      omega
  · rw [State.stackLimits_setFrames]; rfl
  · rw [State.stackBytes_setFrames]; rfl
  · refine ⟨?_, Nat.le_refl _, Nat.le_refl _, ?_, ?_, fun a c9 h9 => ⟨c9, h9, rfl, rfl, fun _ _ => rfl⟩⟩
    · obtain ⟨t, ht, -⟩ := State.frames_cons hr
      show T.setVm s.vm = { ((T.setVm s.vm).setFrames (.invoking m args :: below)).setFrames (T.setVm s.vm).frames with heap := T.heap, slotsUsed := T.slotsUsed }
      rw [State.setFrames_setFrames, State.setFrames_self ht]
      rfl
    · show T.slotsUsed = T.slotsUsed + ((T.heap.toList.drop T.heap.size).map (·.slots.size)).sum
      rw [List.drop_eq_nil_of_le (Nat.le_of_eq Array.length_toList)]
      rfl
    · show ((T.heap.toList.drop T.heap.size).map (·.slots.size)).sum ≤ 0
      rw [List.drop_eq_nil_of_le (Nat.le_of_eq Array.length_toList)]
      exact Nat.le_refl _
/-- 'throw new E()': new; dup; invokespecial; athrow -/
theorem vx_throw0 {cc : ByteArray} {pc : Nat} (hexec : p.tables.exec = Jvm.exec) (hb : c.code = cc) (hl : l.stackTraces = false) {own cls : String} {names : List String} {ik ic mc ms : Nat} {A : Nat → Prop}
    (hown : s.vm.findClass own = some m.cls) (hcls : Bundle.fit cls = true) (hnames : ∀ n ∈ names, Bundle.fit n = true)
    (hk : (Cond.classLink own ik cls).before args s = true) (hini : (Cond.initialized cls).before args s = true) (hat : ∀ w ∈ vx_at0 own ic cls names, w.before args s = true)
    (hgood : ∀ w ∈ Cond.classLink own ik cls :: Cond.initialized cls :: vx_at0 own ic cls names, vx_ot w = true)
    (hU : vx_Zq Bundle.tN "UNASSIGNED_STACK" Bundle.steD A s s.heap) (hN : vx_Zq Bundle.tN "SUPPRESSED_SENTINEL" Bundle.listD A s s.heap) (hS : va_S A s.heap H locs) (hsize : ls.size = c.maxLocals)
    (d0 : decode cc pc = .ok (.new ik, 3)) (d3 : decode cc (pc + 3) = .ok (.dup, 1)) (d4 : decode cc (pc + 4) = .ok (.invokespecial ic, 3)) (d7 : decode cc (pc + 7) = .ok (.athrow, 1))
    (hout : ∀ x ∈ c.exceptionTable.toList, covers x (pc + 7) = false)
    (hRframes : names.length + 3 < R.frames) (hRlocals : (rest.map fun v => v.category).sum + (13 * (names.length + 1) + 42) ≤ R.locals) (hRcells : cells + 1 ≤ R.cells) (hRslots : slots + 6 ≤ R.slots) (hlocks : meth.locks = false)
    (hx : ∀ t : State, s.vm.Alike t.vm → H.size ≤ t.heap.size → (∀ q : Nat, q < H.size → t.heap[q]? = H[q]?) → XC cls s t)
    (hf : ∀ z ∈ locs, free z.base) (hc : cells + 1 ≤ mc) (hs : slots + 6 ≤ ms) :
    W p l e R s m args below meth c H locs cells slots (vx_MQ below Qc XC args s mc ms free) (F0 m pc ls rest) := by
  intro T hT X
  have htr : e.platform.stackTraces = false := (show e.platform.stackTraces = l.stackTraces by rw [X.admits.platform]).trans hl
  have Y := vx_rebase X (R' := { frames := R.frames, locals := R.locals, cells := 1, slots := 6 }) (Nat.le_refl _) (Nat.le_refl _) hRcells hRslots
  obtain ⟨s', hA⟩ : ∃ z, z = (T.setVm s.vm).setFrames (.invoking m args :: below) := ⟨_, rfl⟩
  rw [← hA] at Y
  have hvm : s'.vm = s.vm := by rw [hA]; rfl
  have hhp : s'.heap = H := by rw [hA]; exact hT
  have hW0 : s.WarmedH s'.vm := by rw [hvm]; exact State.WarmedH.refl s
  have hat' : ∀ w ∈ vx_at0 own ic cls names, w.before args s' = true := fun w hw => vx_ot_at hW0 hvm.symm (hgood w (List.mem_cons_of_mem _ (List.mem_cons_of_mem _ hw))) (hat w hw)
  have hk' : (Cond.classLink own ik cls).before args s' = true := vx_ot_at hW0 hvm.symm (hgood _ List.mem_cons_self) hk
  have hini' : (Cond.initialized cls).before args s' = true := vx_ot_at hW0 hvm.symm (hgood _ (List.mem_cons_of_mem _ List.mem_cons_self)) hini
  have hU' : vx_Zq Bundle.tN "UNASSIGNED_STACK" Bundle.steD A s' s'.heap := by rw [hhp]; exact vx_Zq.moved hW0.alike (hU.kept hS.2.1)
  have hN' : vx_Zq Bundle.tN "SUPPRESSED_SENTINEL" Bundle.listD A s' s'.heap := by rw [hhp]; exact vx_Zq.moved hW0.alike (hN.kept hS.2.1)
  have h : ∀ w ∈ Bundle.ownAtoms0 own ic cls names, w.before args s' = true := vx_own hat' (vx_isRefq hU'.1) (vx_isRefq hN'.1) hU'.2.word hN'.2.word
  have hown' : s'.vm.findClass own = some m.cls := by rw [hvm]; exact hown
  have hins : (Cond.instantiable cls 6).before args s' = true := h _ (by simp [Bundle.ownAtoms0])
  obtain ⟨vm₁, cX, kX, hfX, hkX, -, -, X₁, st1⟩ := Y.newCold hexec (own := own) (C := cls) (index := ik) (n := 6) hown' hk' hins hini'
    (g := F0 m pc ls rest) rfl (by rw [hb]; exact d0) (Nat.le_refl _) (Nat.le_refl _)
  generalize hT1 : (T.setVm vm₁).pushCell { cls := cX, slots := kX.instanceTypes.map defaultValue, vm := .none } = T1 at X₁ st1
  have hcat : (Value.ref T.heap.size).category = 1 := rfl
  have hcellA : T1.heap[T.heap.size]? = some (freshCell cX kX) := by rw [← hT1]; exact State.heap_pushCell_size _ _
  have d3' : decode c.code (pc + 3) = .ok (.dup, 1) := by rw [hb]; exact d3
  obtain ⟨U, hsteps, hrun, hend, hW, hsame, ce, hce, hO⟩ := X₁.ctorThrow0 hexec htr (own := own) (cls := cls) (names := names) (ic := ic) hown' hcls hnames h (fun x hx => nomatch hx) hfX hkX hcellA (by rw [hhp, hT]; exact Nat.le_refl _)
    (g := { method := m, pc := pc + 4, locals := ls, stack := .ref T.heap.size :: .ref T.heap.size :: rest, locked := none }) rfl hsize rfl rfl (rest := rest) rfl
    (by rw [hb]; exact d4) (by rw [hb]; exact d7) hout hRframes (by simp only [List.map_cons, List.sum_cons, hcat]; omega) hlocks
  obtain ⟨f1, f2⟩ := vx_frame hsame
  rw [hhp] at f1 f2
  have hWs : s.WarmedH U.vm := State.WarmedH.trans hW0 hW
  have hcl : s.vm.findClass cls = some ce.cls := by
    have h9 := hO.cls
    rw [hvm] at h9
    exact h9
  have hall : s.sameButNew ({ U with vm := s.vm } : State) locs mc ms := by
    subst hA
    obtain ⟨e1, e2⟩ := hsame
    rw [State.setFrames_setFrames] at e1
    have h2 : (T.setVm s.vm).sameButNew ({ U with vm := s.vm } : State) [] (0 + 1) (0 + 6) := ⟨e1, e2⟩
    have h3 := X.same.trans h2
    rw [List.append_nil] at h3
    exact h3.mono hc hs
  refine ⟨U, ?_, .threw T.heap.size, hrun, hend, Or.inr ⟨T.heap.size, rfl, cls, ce, locs, hx U hWs.alike f1 (fun q hq => f2 q hq (fun z hz => nomatch hz)), hce, hO.vm, hcl, hWs, hall, hf⟩⟩
  refine st1 _ ?_
  show Steps p.tables e below (T1.setTop { method := m, pc := pc + 3, locals := ls, stack := .ref T.heap.size :: rest, locked := none }) _
  jvm_step X₁.here [X₁.here.top, hexec, d3', Value.category]
  exact hsteps
/-- 'throw new E("text")': new; dup; ldc; invokespecial; athrow -/
theorem vx_throwS {cc : ByteArray} {pc : Nat} (hexec : p.tables.exec = Jvm.exec) (hb : c.code = cc) (hl : l.stackTraces = false) {own cls text : String} {names : List String} {ik is ic mc ms sa : Nat} {A : Nat → Prop}
    (hown : s.vm.findClass own = some m.cls) (hcls : Bundle.fit cls = true) (hnames : ∀ n ∈ names, Bundle.fit n = true)
    (hk : (Cond.classLink own ik cls).before args s = true) (hini : (Cond.initialized cls).before args s = true) (hstr : vk_R own is text sa s) (hat : ∀ w ∈ vx_atS own ic cls names, w.before args s = true)
    (hgood : ∀ w ∈ Cond.classLink own ik cls :: Cond.initialized cls :: vx_atS own ic cls names, vx_ot w = true)
    (hU : vx_Zq Bundle.tN "UNASSIGNED_STACK" Bundle.steD A s s.heap) (hN : vx_Zq Bundle.tN "SUPPRESSED_SENTINEL" Bundle.listD A s s.heap) (hS : va_S A s.heap H locs) (hsize : ls.size = c.maxLocals)
    (d0 : decode cc pc = .ok (.new ik, 3)) (d3 : decode cc (pc + 3) = .ok (.dup, 1)) (d4 : decode cc (pc + 4) = .ok (.ldc is, 2)) (d6 : decode cc (pc + 6) = .ok (.invokespecial ic, 3)) (d9 : decode cc (pc + 9) = .ok (.athrow, 1))
    (hout : ∀ x ∈ c.exceptionTable.toList, covers x (pc + 9) = false)
    (hRframes : names.length + 3 < R.frames) (hRlocals : (rest.map fun v => v.category).sum + (13 * (names.length + 1) + 43) ≤ R.locals) (hRcells : cells + 1 ≤ R.cells) (hRslots : slots + 6 ≤ R.slots) (hlocks : meth.locks = false)
    (hx : ∀ t : State, s.vm.Alike t.vm → H.size ≤ t.heap.size → (∀ q : Nat, q < H.size → t.heap[q]? = H[q]?) → XC cls s t)
    (hf : ∀ z ∈ locs, free z.base) (hc : cells + 1 ≤ mc) (hs : slots + 6 ≤ ms) :
    W p l e R s m args below meth c H locs cells slots (vx_MQ below Qc XC args s mc ms free) (F0 m pc ls rest) := by
  intro T hT X
  have htr : e.platform.stackTraces = false := (show e.platform.stackTraces = l.stackTraces by rw [X.admits.platform]).trans hl
  have Y := vx_rebase X (R' := { frames := R.frames, locals := R.locals, cells := 1, slots := 6 }) (Nat.le_refl _) (Nat.le_refl _) hRcells hRslots
  obtain ⟨s', hA⟩ : ∃ z, z = (T.setVm s.vm).setFrames (.invoking m args :: below) := ⟨_, rfl⟩
  rw [← hA] at Y
  have hvm : s'.vm = s.vm := by rw [hA]; rfl
  have hhp : s'.heap = H := by rw [hA]; exact hT
  have hW0 : s.WarmedH s'.vm := by rw [hvm]; exact State.WarmedH.refl s
  have hat' : ∀ w ∈ vx_atS own ic cls names, w.before args s' = true := fun w hw => vx_ot_at hW0 hvm.symm (hgood w (List.mem_cons_of_mem _ (List.mem_cons_of_mem _ hw))) (hat w hw)
  have hk' : (Cond.classLink own ik cls).before args s' = true := vx_ot_at hW0 hvm.symm (hgood _ List.mem_cons_self) hk
  have hini' : (Cond.initialized cls).before args s' = true := vx_ot_at hW0 hvm.symm (hgood _ (List.mem_cons_of_mem _ List.mem_cons_self)) hini
  have hU' : vx_Zq Bundle.tN "UNASSIGNED_STACK" Bundle.steD A s' s'.heap := by rw [hhp]; exact vx_Zq.moved hW0.alike (hU.kept hS.2.1)
  have hN' : vx_Zq Bundle.tN "SUPPRESSED_SENTINEL" Bundle.listD A s' s'.heap := by rw [hhp]; exact vx_Zq.moved hW0.alike (hN.kept hS.2.1)
  have h : ∀ w ∈ Bundle.ownAtoms own ic cls names, w.before args s' = true := vx_own hat' (vx_isRefq hU'.1) (vx_isRefq hN'.1) hU'.2.word hN'.2.word
  have hown' : s'.vm.findClass own = some m.cls := by rw [hvm]; exact hown
  have hins : (Cond.instantiable cls 6).before args s' = true := h _ (by simp [Bundle.ownAtoms])
  obtain ⟨vm₁, cX, kX, hfX, hkX, -, -, X₁, st1⟩ := Y.newCold hexec (own := own) (C := cls) (index := ik) (n := 6) hown' hk' hins hini'
    (g := F0 m pc ls rest) rfl (by rw [hb]; exact d0) (Nat.le_refl _) (Nat.le_refl _)
  generalize hT1 : (T.setVm vm₁).pushCell { cls := cX, slots := kX.instanceTypes.map defaultValue, vm := .none } = T1 at X₁ st1
  have hcat : (Value.ref T.heap.size).category = 1 := rfl
  have hcellA : T1.heap[T.heap.size]? = some (freshCell cX kX) := by rw [← hT1]; exact State.heap_pushCell_size _ _
  have d3' : decode c.code (pc + 3) = .ok (.dup, 1) := by rw [hb]; exact d3
  have d4' : decode c.code (pc + 4) = .ok (.ldc is, 2) := by rw [hb]; exact d4
  have hstr' : vk_R own is text sa s' := vk_R.warm hW0 hstr
  obtain ⟨U, hsteps, hrun, hend, hW, hsame, ce, hce, hO⟩ := X₁.ctorThrowS hexec htr (own := own) (cls := cls) (names := names) (ic := ic) hown' hcls hnames h (fun x hx => nomatch hx) hfX hkX hcellA (by rw [hhp, hT]; exact Nat.le_refl _) (msg := .ref sa) rfl
    (g := { method := m, pc := pc + 6, locals := ls, stack := .ref sa :: .ref T.heap.size :: .ref T.heap.size :: rest, locked := none }) rfl hsize rfl rfl (rest := rest) rfl
    (by rw [hb]; exact d6) (by rw [hb]; exact d9) hout hRframes (by simp only [List.map_cons, List.sum_cons, hcat]; omega) hlocks
  obtain ⟨f1, f2⟩ := vx_frame hsame
  rw [hhp] at f1 f2
  have hWs : s.WarmedH U.vm := State.WarmedH.trans hW0 hW
  have hcl : s.vm.findClass cls = some ce.cls := by
    have h9 := hO.cls
    rw [hvm] at h9
    exact h9
  have hall : s.sameButNew ({ U with vm := s.vm } : State) locs mc ms := by
    subst hA
    obtain ⟨e1, e2⟩ := hsame
    rw [State.setFrames_setFrames] at e1
    have h2 : (T.setVm s.vm).sameButNew ({ U with vm := s.vm } : State) [] (0 + 1) (0 + 6) := ⟨e1, e2⟩
    have h3 := X.same.trans h2
    rw [List.append_nil] at h3
    exact h3.mono hc hs
  refine ⟨U, ?_, .threw T.heap.size, hrun, hend, Or.inr ⟨T.heap.size, rfl, cls, ce, locs, hx U hWs.alike f1 (fun q hq => f2 q hq (fun z hz => nomatch hz)), hce, hO.vm, hcl, hWs, hall, hf⟩⟩
  refine st1 _ ?_
  show Steps p.tables e below (T1.setTop { method := m, pc := pc + 3, locals := ls, stack := .ref T.heap.size :: rest, locked := none }) _
  jvm_step X₁.here [X₁.here.top, hexec, d3', Value.category]
  exact X₁.ldcString hexec (own := own) (text := text) (index := is) (a := sa) hown' hstr'.1 hstr'.2
    (g := { method := m, pc := pc + 4, locals := ls, stack := .ref T.heap.size :: .ref T.heap.size :: rest, locked := none }) rfl d4' _ hsteps
/-- 'throw new E("text")', the text by a wide index -/
theorem vx_throwSW {cc : ByteArray} {pc : Nat} (hexec : p.tables.exec = Jvm.exec) (hb : c.code = cc) (hl : l.stackTraces = false) {own cls text : String} {names : List String} {ik is ic mc ms sa : Nat} {A : Nat → Prop}
    (hown : s.vm.findClass own = some m.cls) (hcls : Bundle.fit cls = true) (hnames : ∀ n ∈ names, Bundle.fit n = true)
    (hk : (Cond.classLink own ik cls).before args s = true) (hini : (Cond.initialized cls).before args s = true) (hstr : vk_R own is text sa s) (hat : ∀ w ∈ vx_atS own ic cls names, w.before args s = true)
    (hgood : ∀ w ∈ Cond.classLink own ik cls :: Cond.initialized cls :: vx_atS own ic cls names, vx_ot w = true)
    (hU : vx_Zq Bundle.tN "UNASSIGNED_STACK" Bundle.steD A s s.heap) (hN : vx_Zq Bundle.tN "SUPPRESSED_SENTINEL" Bundle.listD A s s.heap) (hS : va_S A s.heap H locs) (hsize : ls.size = c.maxLocals)
    (d0 : decode cc pc = .ok (.new ik, 3)) (d3 : decode cc (pc + 3) = .ok (.dup, 1)) (d4 : decode cc (pc + 4) = .ok (.ldc_w is, 3)) (d7 : decode cc (pc + 7) = .ok (.invokespecial ic, 3)) (d10 : decode cc (pc + 10) = .ok (.athrow, 1))
    (hout : ∀ x ∈ c.exceptionTable.toList, covers x (pc + 10) = false)
    (hRframes : names.length + 3 < R.frames) (hRlocals : (rest.map fun v => v.category).sum + (13 * (names.length + 1) + 43) ≤ R.locals) (hRcells : cells + 1 ≤ R.cells) (hRslots : slots + 6 ≤ R.slots) (hlocks : meth.locks = false)
    (hx : ∀ t : State, s.vm.Alike t.vm → H.size ≤ t.heap.size → (∀ q : Nat, q < H.size → t.heap[q]? = H[q]?) → XC cls s t)
    (hf : ∀ z ∈ locs, free z.base) (hc : cells + 1 ≤ mc) (hs : slots + 6 ≤ ms) :
    W p l e R s m args below meth c H locs cells slots (vx_MQ below Qc XC args s mc ms free) (F0 m pc ls rest) := by
  intro T hT X
  have htr : e.platform.stackTraces = false := (show e.platform.stackTraces = l.stackTraces by rw [X.admits.platform]).trans hl
  have Y := vx_rebase X (R' := { frames := R.frames, locals := R.locals, cells := 1, slots := 6 }) (Nat.le_refl _) (Nat.le_refl _) hRcells hRslots
  obtain ⟨s', hA⟩ : ∃ z, z = (T.setVm s.vm).setFrames (.invoking m args :: below) := ⟨_, rfl⟩
  rw [← hA] at Y
  have hvm : s'.vm = s.vm := by rw [hA]; rfl
  have hhp : s'.heap = H := by rw [hA]; exact hT
  have hW0 : s.WarmedH s'.vm := by rw [hvm]; exact State.WarmedH.refl s
  have hat' : ∀ w ∈ vx_atS own ic cls names, w.before args s' = true := fun w hw => vx_ot_at hW0 hvm.symm (hgood w (List.mem_cons_of_mem _ (List.mem_cons_of_mem _ hw))) (hat w hw)
  have hk' : (Cond.classLink own ik cls).before args s' = true := vx_ot_at hW0 hvm.symm (hgood _ List.mem_cons_self) hk
  have hini' : (Cond.initialized cls).before args s' = true := vx_ot_at hW0 hvm.symm (hgood _ (List.mem_cons_of_mem _ List.mem_cons_self)) hini
  have hU' : vx_Zq Bundle.tN "UNASSIGNED_STACK" Bundle.steD A s' s'.heap := by rw [hhp]; exact vx_Zq.moved hW0.alike (hU.kept hS.2.1)
  have hN' : vx_Zq Bundle.tN "SUPPRESSED_SENTINEL" Bundle.listD A s' s'.heap := by rw [hhp]; exact vx_Zq.moved hW0.alike (hN.kept hS.2.1)
  have h : ∀ w ∈ Bundle.ownAtoms own ic cls names, w.before args s' = true := vx_own hat' (vx_isRefq hU'.1) (vx_isRefq hN'.1) hU'.2.word hN'.2.word
  have hown' : s'.vm.findClass own = some m.cls := by rw [hvm]; exact hown
  have hins : (Cond.instantiable cls 6).before args s' = true := h _ (by simp [Bundle.ownAtoms])
  obtain ⟨vm₁, cX, kX, hfX, hkX, -, -, X₁, st1⟩ := Y.newCold hexec (own := own) (C := cls) (index := ik) (n := 6) hown' hk' hins hini'
    (g := F0 m pc ls rest) rfl (by rw [hb]; exact d0) (Nat.le_refl _) (Nat.le_refl _)
  generalize hT1 : (T.setVm vm₁).pushCell { cls := cX, slots := kX.instanceTypes.map defaultValue, vm := .none } = T1 at X₁ st1
  have hcat : (Value.ref T.heap.size).category = 1 := rfl
  have hcellA : T1.heap[T.heap.size]? = some (freshCell cX kX) := by rw [← hT1]; exact State.heap_pushCell_size _ _
  have d3' : decode c.code (pc + 3) = .ok (.dup, 1) := by rw [hb]; exact d3
  have d4' : decode c.code (pc + 4) = .ok (.ldc_w is, 3) := by rw [hb]; exact d4
  have hstr' : vk_R own is text sa s' := vk_R.warm hW0 hstr
  obtain ⟨U, hsteps, hrun, hend, hW, hsame, ce, hce, hO⟩ := X₁.ctorThrowS hexec htr (own := own) (cls := cls) (names := names) (ic := ic) hown' hcls hnames h (fun x hx => nomatch hx) hfX hkX hcellA (by rw [hhp, hT]; exact Nat.le_refl _) (msg := .ref sa) rfl
    (g := { method := m, pc := pc + 7, locals := ls, stack := .ref sa :: .ref T.heap.size :: .ref T.heap.size :: rest, locked := none }) rfl hsize rfl rfl (rest := rest) rfl
    (by rw [hb]; exact d7) (by rw [hb]; exact d10) hout hRframes (by simp only [List.map_cons, List.sum_cons, hcat]; omega) hlocks
  obtain ⟨f1, f2⟩ := vx_frame hsame
  rw [hhp] at f1 f2
  have hWs : s.WarmedH U.vm := State.WarmedH.trans hW0 hW
  have hcl : s.vm.findClass cls = some ce.cls := by
    have h9 := hO.cls
    rw [hvm] at h9
    exact h9
  have hall : s.sameButNew ({ U with vm := s.vm } : State) locs mc ms := by
    subst hA
    obtain ⟨e1, e2⟩ := hsame
    rw [State.setFrames_setFrames] at e1
    have h2 : (T.setVm s.vm).sameButNew ({ U with vm := s.vm } : State) [] (0 + 1) (0 + 6) := ⟨e1, e2⟩
    have h3 := X.same.trans h2
    rw [List.append_nil] at h3
    exact h3.mono hc hs
  refine ⟨U, ?_, .threw T.heap.size, hrun, hend, Or.inr ⟨T.heap.size, rfl, cls, ce, locs, hx U hWs.alike f1 (fun q hq => f2 q hq (fun z hz => nomatch hz)), hce, hO.vm, hcl, hWs, hall, hf⟩⟩
  refine st1 _ ?_
  show Steps p.tables e below (T1.setTop { method := m, pc := pc + 3, locals := ls, stack := .ref T.heap.size :: rest, locked := none }) _
  jvm_step X₁.here [X₁.here.top, hexec, d3', Value.category]
  exact X₁.ldcStringW hexec (own := own) (text := text) (index := is) (a := sa) hown' hstr'.1 hstr'.2
    (g := { method := m, pc := pc + 4, locals := ls, stack := .ref T.heap.size :: .ref T.heap.size :: rest, locked := none }) rfl d4' _ hsteps
end Ends
section Bodies
variable {l : Launch}
theorem vx_ofW {y : MethodName} {ws ws' : List Cond} {rm : Room} {Pc : Array Value → State → Prop} {Qc : Array Value → State → Outcome → State → Prop} {XC : String → State → State → Prop} {mc ms : Nat} {free : Addr → Prop} {cc : ByteArray} {maxL : Nat} {ret : Option FieldType}
    (hy : plainName y.cls = true) (hw : ws = Cond.code y cc maxL ret :: ws')
    (body : ∀ p e s m args below meth c s₁, BodyLoose p l y (headSpec ws rm) cc maxL ret e s m args below meth c s₁ → c.maxLocals = maxL → (∀ x ∈ c.exceptionTable.toList, False) → Pc args s →
      W p l e (headSpec ws rm).room s m args below meth c s.heap [] 0 0 (vx_MQ below Qc XC args s mc ms free) (entryFrame m args maxL)) : vx_Met l y ws rm Pc Qc XC mc ms free := by
  refine MetFree.of_bodyS (code := cc) (maxLocals := maxL) (ret := ret) hy ?_ ?_
  · intro args s m h hn
    obtain ⟨meth, c, h1, h2, h3, h4, h5, h6, -, -⟩ := Cond.code_spec hn (atoms_spec (ws := ws) h _ (by rw [hw]; exact List.mem_cons_self))
    exact ⟨meth, c, h1, h2, h3, h4, h5, h6⟩
  · intro p e s m args below meth c s₁ B hml hP _
    have hh0 : s₁.heap = s.heap := by rw [B.state]; rfl
    have ht : ∀ x ∈ c.exceptionTable.toList, False := by
      obtain ⟨meth9, c9, h1, h2, -, -, -, -, h7, -⟩ := Cond.code_spec B.named (atoms_spec (ws := ws) B.pre _ (by rw [hw]; exact List.mem_cons_self))
      cases Option.some.inj (h1.symm.trans B.method)
      cases Option.some.inj (h2.symm.trans (Stand.of_body B).code)
      intro x hx
      rw [Array.isEmpty_iff.mp h7] at hx
      cases hx
    obtain ⟨t, a1, o, b1, b2, b3⟩ := body p e s m args below meth c s₁ B hml ht hP s₁ hh0 (Stand.of_body B)
    exact ⟨t, o, a1, b1, b2, b3⟩
/-- the table of a body with handlers -/
theorem vx_table {p : Program} {x y : MethodName} {S : Spec} {cc bytes : ByteArray} {maxL maxL' : Nat} {ret ret' : Option FieldType} {e : Env} {s s₁ : State} {m : MethodId} {args : Array Value} {below : List Frame} {meth : Method} {c : Code} {hh : List (Nat × Nat × Nat × Nat)}
    (B : BodyLoose p l y S cc maxL ret e s m args below meth c s₁) (h : (Cond.codeWith y bytes maxL' ret' hh).before args s = true) : c.exceptionTable.toList = tableOf hh := by
  obtain ⟨m9, meth9, c9, hn9, h1, h2, -, -, h6, -⟩ := Cond.codeWith_spec h
  cases Option.some.inj (hn9.symm.trans B.named)
  cases Option.some.inj (h1.symm.trans B.method)
  cases Option.some.inj (h2.symm.trans (Stand.of_body B).code)
  rw [← h6, table_eq]
end Bodies
end VXA
/-! ===== END ===== -/
/-! ===== BEGIN a static call of a method with an exception table ===== -/
section VXS
variable {p : Program} {l : Launch} {e : Env} {R : Room} {s : State} {m : MethodId} {args : Array Value} {below : List Frame} {meth : Method} {c : Code} {T : State} {H : Heap} {locs : List Loc} {cells slots : Nat}
abbrev vx_CSW (R : Room) (s : State) (args : Array Value) (own : String) (index : Nat) (y : MethodName) (bytes : ByteArray) (maxL : Nat) (ret : Option FieldType) (hh : List (Nat × Nat × Nat × Nat)) (ws : List Cond) (rm : Room) (mc ms n : Nat) : Prop :=
  (rm.cells = mc ∧ rm.slots = ms ∧ rm.frames + 1 ≤ R.frames ∧ 8 + (maxL + 11) + rm.locals ≤ R.locals ∧ (∀ w ∈ ws, ∀ (a' : Array Value) (U : State), s.WarmedH U.vm → w.before a' U = true) ∧ Cond.codeWith y bytes maxL ret hh ∈ ws) ∧
  (Cond.codeWith y bytes maxL ret hh).before args s = true ∧ (Cond.initialized y.cls).before args s = true ∧ (y.cls ≠ "java/lang/invoke/MethodHandle" ∧ y.cls ≠ "java/lang/invoke/VarHandle") ∧
  (∀ sig, parseMethodDescriptor y.desc = some sig → n = sig.parameters.length) ∧ (Cond.methodLink own index y).before args s = true ∧ (Cond.static y).before args s = true
theorem vx_cwSW {own : String} {index maxL mc ms : Nat} {y : MethodName} {bytes : ByteArray} {ret : Option FieldType} {hh : List (Nat × Nat × Nat × Nat)} {Ts ws ws' : List Cond} {rm : Room} (n : Nat) (ht : ∀ w ∈ Ts, w.before args s = true) (hT : GoodIn Ts (va_wsS own index y ws)) (hw : ws = Cond.codeWith y bytes maxL ret hh :: ws') (hrc : rm.cells = mc) (hrs : rm.slots = ms)
    (hd : y.cls ≠ "java/lang/invoke/MethodHandle" ∧ y.cls ≠ "java/lang/invoke/VarHandle" ∧ (parseMethodDescriptor y.desc).map (fun d => d.parameters.length) = some n) (hR : rm.frames + 1 ≤ R.frames ∧ 8 + (maxL + 11) + rm.locals ≤ R.locals) :
    vx_CSW R s args own index y bytes maxL ret hh ws rm mc ms n := by
  have ok : ∀ w ∈ va_wsS own index y ws, w.before args s = true := fun w h => ht w (hT w h).1
  have hG : GoodIn Ts ws := fun w h => hT w (by unfold va_wsS; exact List.mem_append_right _ h)
  have hc : Cond.codeWith y bytes maxL ret hh ∈ ws := by rw [hw]; exact List.mem_cons_self
  refine ⟨⟨hrc, hrs, hR.1, hR.2, pay_in ht hG, hc⟩, ht _ (hG _ hc).1, ok _ (by simp [va_wsS]), ⟨hd.1, hd.2.1⟩, fun sig h => ?_, ok _ (by simp [va_wsS]), ok _ (by simp [va_wsS])⟩
  have h2 := hd.2.2
  rw [h] at h2
  exact (Option.some.inj h2).symm
theorem vx_callSW (X : Stand p l e R s m args below meth c T locs cells slots) (hexec : p.tables.exec = Jvm.exec) {own : String} {index : Nat} {y : MethodName} {bytes : ByteArray} {maxL : Nat} {ret : Option FieldType} {hh : List (Nat × Nat × Nat × Nat)}
    (hown : s.vm.findClass own = some m.cls) (hlink : (Cond.methodLink own index y).before args s = true) (hstat : (Cond.static y).before args s = true) (hinit : (Cond.initialized y.cls).before args s = true)
    (hcode : (Cond.codeWith y bytes maxL ret hh).before args s = true) (hy : y.cls ≠ "java/lang/invoke/MethodHandle" ∧ y.cls ≠ "java/lang/invoke/VarHandle")
    {W9 : Nat} {Pre : Pt → Array Value → Prop} {Post : Pt → Array Value → Option Value → Pt → Prop} (hK : Back l R p e below s args y 3 W9 Pre Post)
    {g : JFrame} (hg : g.method = m) (hsize : g.locals.size = c.maxLocals) {argsL rest : List Value} (hlen : ∀ sig, parseMethodDescriptor y.desc = some sig → argsL.length = sig.parameters.length)
    (hstack : g.stack = argsL.reverse ++ rest) (hW : 2 * g.monitorRoom + (rest.map fun v => v.category).sum ≤ W9) (hdg : decode c.code g.pc = .ok (.invokestatic index, 3))
    (hpre : ∀ vm₁, s.WarmedH vm₁ → Pre ⟨T.setVm vm₁, locs, cells, slots⟩ argsL.toArray) :
    ∃ (v : Option Value) (vm₁ : Vm) (B : Pt), s.WarmedH vm₁ ∧ Stand p l e R s m args below meth c B.U B.locs B.cells B.slots ∧ Post ⟨T.setVm vm₁, locs, cells, slots⟩ argsL.toArray v B ∧
      ∀ target, Steps p.tables e below (B.U.setTop { g with pc := g.pc + 3, stack := v.toList ++ rest }) target → Steps p.tables e below (T.setTop g) target := by
  obtain ⟨mk, methM, cM, hnamed, hmethM, -, -, -, -, -, -, hsigM⟩ := Cond.codeWith_spec hcode
  have hstatic : methM.isStatic = true := Cond.static_spec hnamed hmethM hstat
  obtain ⟨kP, hkP, -⟩ := className_of_methodNamed hnamed
  have hinitP : kP.init = .initialized := Cond.initialized_spec (findClass_of_methodNamed hnamed) hkP hinit
  obtain ⟨vm₁, X₁, hstep₁⟩ := X.invokestatic hexec hown hlink hnamed hmethM hstatic hkP hinitP hy (g := g) hg (argsL := argsL) (rest := rest) (hlen _ hsigM) hstack hdg
  obtain ⟨v, B, X', hpost, hsteps⟩ := hK m meth c ⟨T.setVm vm₁, locs, cells, slots⟩ { g with stack := rest } (.invokestatic index) mk argsL.toArray X₁ hg hsize hdg hW (X₁.named hnamed) (hpre vm₁ X₁.warmed)
  exact ⟨v, vm₁, B, X₁.warmed, X', hpost, fun target h => hstep₁ _ fun acts => by rw [doInvoke_state]; exact hsteps.trans h⟩
theorem vx_runSW {y : MethodName} {bytes cc : ByteArray} {maxL nL mc ms n index : Nat} {ret : Option FieldType} {hh : List (Nat × Nat × Nat × Nat)} {ws : List Cond} {rm : Room} {Pc : Array Value → State → Prop} {Qc : Array Value → State → Outcome → State → Prop} {free : Addr → Prop} {Ts : List Cond} {own : String} {As rest : List Value} {g : JFrame}
    (S : CallFix p m c cc nL s args Ts own) (hM : Met l y ws rm Pc Qc mc ms free) (cw : vx_CSW R s args own index y bytes maxL ret hh ws rm mc ms n) (hp : PreS s H Pc As)
    (hg : g.method = m) (hn : As.length = n) (hsize : g.locals.size = nL) (hstack : g.stack = As.reverse ++ rest) (hW : 2 * g.monitorRoom + (rest.map fun v => v.category).sum ≤ 8) (hdg : decode cc g.pc = .ok (.invokestatic index, 3)) (hf : cells + mc ≤ R.cells ∧ slots + ms ≤ R.slots) :
    va_Run p l e R s m args below meth c H locs cells slots mc ms g rest (Qc As.toArray) (free) := by
  obtain ⟨⟨hrc, hrs, hfr, hlo, hws, hcw⟩, hcode, hini, hy, hlen, hl, hstt⟩ := cw
  have hK : Back l R p e below s args y 3 8 (PreOf R mc ms Pc) (PostOf Qc mc ms free) := va_backW (hh := hh) (bytes := bytes) (maxL := maxL) (ret := ret) hM hp.1 hrc hrs hfr hlo hws hcw (fun a' U hW => word_at hW (Or.inl (by first | rfl | simp [Cond.onTables, Cond.keeps, Cond.steady])) hini)
  obtain ⟨hx, hb, hml, ho, -⟩ := S
  intro T hT X
  obtain ⟨v, vm₁, ⟨U', l2, c2, s2⟩, hW₁, X', ⟨g', mk, t, L, e1, e2, hq, h1, hL, h2, h3⟩, st⟩ := vx_callSW X hx (hh := hh) (bytes := bytes) (maxL := maxL) (ret := ret) ho hl hstt hini hcode hy hK hg (hsize.trans hml.symm) (argsL := As) (rest := rest) (fun sig h => hn.trans (hlen sig h)) hstack hW (by rw [hb]; exact hdg)
    (fun vm₁ hW₁ => ⟨hf.1, hf.2, hp.2 (T.setVm vm₁) hT hW₁⟩)
  dsimp only [Pt.U, Pt.locs, Pt.cells, Pt.slots] at X' e1 e2 h1 h2 h3 st
  subst h1; subst h2; subst h3
  exact ⟨v, (T.setVm vm₁).calling g' mk As.toArray, t, U', L, hT, X', hL, e1, e2, hq, st⟩
/-- not caught here, past rows that name other classes: it goes on to the caller -/
theorem vx_outP {p : Program} {l : Launch} {e : Env} {R : Room} {s : State} {m : MethodId} {args : Array Value} {below : List Frame} {meth : Method} {c : Code} {H : Heap} {locs : List Loc} {cells slots : Nat} {free : Addr → Prop} {ls : Array Slot} {rest : List Value} {Qc : Array Value → State → Outcome → State → Prop} {XC : String → State → State → Prop}
    {pc : Nat} {own E : String} {ce : Cell} {q : Addr} {mc ms : Nat} (hown : s.vm.findClass own = some m.cls) (hlocks : meth.locks = false)
    (hpass : ∀ z ∈ c.exceptionTable.toList, covers z pc = false ∨ (z.catchType ≠ 0 ∧ ∃ nm : String, (Cond.classLink own z.catchType nm).before args s = true ∧ va_Nc E nm s)) (hcell : H[q]? = some ce) (hv : ce.vm = .none) (hcl : s.vm.findClass E = some ce.cls)
    (hx : ∀ t : State, t.heap = H → s.vm.Alike t.vm → XC E s t) (hf : ∀ z ∈ locs, free z.base) (hc : cells ≤ mc) (hs : slots ≤ ms) :
    vx_W p l e R s m args below meth c H locs cells slots (vx_MQ below Qc XC args s mc ms free) (F0 m pc ls rest) q := by
  intro T hT X
  have hpl : e.platform.magicAccessors = ({} : Platform).magicAccessors := by rw [X.admits.platform]
  obtain ⟨vm', hW', X', st⟩ := X.outThrough hlocks q (g := F0 m pc ls rest) rfl rfl rfl (cell := ce) (by rw [hT]; exact hcell) (by rw [hv]; rfl)
    (by obtain ⟨k9, h9, -⟩ := Vm.findClass_spec hcl; exact ⟨k9, h9⟩) (fun z hz => by
      rcases hpass z hz with h | ⟨hz0, nm, hl1, hn1⟩
      · exact Or.inl h
      · obtain ⟨c6, hc6, hcl6⟩ := Cond.classLink_spec hown hl1 e.platform hpl
        obtain ⟨a8, b8, h1, h2, h3⟩ := hn1
        cases Option.some.inj (h1.symm.trans hcl)
        cases Option.some.inj (h2.symm.trans hc6)
        exact Or.inr ⟨hz0, _, hcl6, h3⟩)
  obtain ⟨g₀, hfr⟩ := X'.frames_eq
  have hcell9 : ((T.setVm vm').setFrames (.throwing q :: below)).heap[q]? = some ce := by
    show T.heap[q]? = some ce
    rw [hT]; exact hcell
  have hend : Ended ((T.setVm vm').setFrames (.throwing q :: below)) below (.threw q) := State.frames_setFrames _ (State.cur_lt_of_frames hfr)
  refine ⟨(T.setVm vm').setFrames (.throwing q :: below), ?_, .threw q, X'.here.running, hend, Or.inr ⟨q, rfl, E, ce, locs, hx _ hT (X'.ends _).1.alike, hcell9, hv, hcl, (X'.ends _).1, (X'.ends _).2.mono hc hs, hf⟩⟩
  rw [X.pushThrowing_eq]
  exact st
/-- a thing of a world lies in the heap -/
theorem vx_lt {D : va_G} {cl : List vw_C} {ws : va_W} {H1 : Heap} (h : va_P D cl ws H1) {k : Nat} {q : Nat × va_E} (hk : ws[k]? = some q) : q.1 < H1.size := (h k q hk).lt
end VXS
/-! ===== END ===== -/
/-! ===== BEGIN methods with a table of their own: called by a name, returning or throwing ===== -/
section VXH
/-! vx_backW, vx_callVX, vx_callSX, vx_callVW, vx_runVW, vx_runVX, vx_runSX, vx_ofWH follow the same proofs as their sisters above (Free/Laws.lean, Shelf42/LK1.lean); vx_outP calls Shelf42/NT130.lean (outThrough). -/
section
variable {l : Launch} {R : Room} {p : Program} {e : Env} {below : List Frame} {s : State} {sargs : Array Value} {y : MethodName} {len W9 : Nat}
theorem vx_backW {ws : List Cond} {rm : Room} {Pc : Array Value → State → Prop} {Qc : Array Value → State → Outcome → State → Prop} {XC : String → State → State → Prop} {mc ms : Nat} {free : Addr → Prop} {bytes : ByteArray} {maxL : Nat} {ret : Option FieldType} {hh : List (Nat × Nat × Nat × Nat)}
    (hM : vx_Met l y ws rm Pc Qc XC mc ms free) (hblind : FrameBlind Pc) (hrc : rm.cells = mc) (hrs : rm.slots = ms)
    (hframes : rm.frames + 1 ≤ R.frames) (hlocals : W9 + (maxL + 11) + rm.locals ≤ R.locals)
    (hws : ∀ w ∈ ws, ∀ a' U, s.WarmedH U.vm → w.before a' U = true) (hcode : Cond.codeWith y bytes maxL ret hh ∈ ws) (hinit : ∀ a' U, s.WarmedH U.vm → (Cond.initialized y.cls).before a' U = true) :
    vx_Back l R p e below s sargs y len W9 (PreOf R mc ms Pc) (PostOf Qc mc ms free) (vx_Post XC mc ms free) := by
  intro m meth c A g ig mk a X hg hsize hdg hW hn hp
  have h1 : (headSpec ws rm).pre.before a A.U = true := atoms_intro fun w hw => hws w hw _ _ X.warmed
  have h2 : (Cond.codeWith y bytes maxL ret hh).before a A.U = true := hws _ hcode _ _ X.warmed
  have h3 : (Cond.initialized y.cls).before a A.U = true := hinit _ _ X.warmed
  have h4 : A.cells + (headSpec ws rm).room.cells ≤ R.cells := by rw [show (headSpec ws rm).room.cells = mc from hrc]; exact hp.1
  have h5 : A.slots + (headSpec ws rm).room.slots ≤ R.slots := by rw [show (headSpec ws rm).room.slots = ms from hrs]; exact hp.2.1
  have hPc : Pc a (A.U.calling g mk a) := hblind _ _ _ _ hp.2.2
  obtain ⟨U, Ls, c0, s0⟩ := A
  dsimp only [Pt.U, Pt.locs, Pt.cells, Pt.slots] at h1 h2 h3 h4 h5 X hn hPc ⊢
  obtain ⟨m9, methY, cY, hn9, hmY, hcY, -, hlY, -⟩ := Cond.codeWith_spec h2
  cases Option.some.inj (hn9.symm.trans hn)
  obtain ⟨kY, hkY, -⟩ := className_of_methodNamed hn
  have hinitY : kY.init = .initialized := Cond.initialized_spec (findClass_of_methodNamed hn) hkY h3
  have h : At U g.method c below := by rw [hg]; exact X.here
  have hlocals9 : W9 + (maxL + 11) + (headSpec ws rm).room.locals ≤ R.locals := hlocals
  have happ : (headSpec ws rm).appliesLoose y e.platform (U.calling g mk a) = true :=
    Spec.appliesLoose_calling (g := g) h hdg hn hkY hinitY
      (X.room_calling (g := g) (R' := (headSpec ws rm).room) hsize hmY hcY hframes (by rw [hlY]; omega) h4 h5) h1
  obtain ⟨mid, hmid⟩ := h.above
  have hfr : (U.setTop g).frames = (.java g :: mid) ++ below := by rw [State.frames_setTop' g h.top, hmid]; rfl
  obtain ⟨o, s₂, hsteps, -, hend, hq⟩ := Steps.callFree hM p X.admits X.cas X.clock (acts := []) hfr happ hPc trivial
  have hq' : vx_Q Qc XC mc ms free a (U.calling g mk a) o s₂ := hq
  rw [State.frames_setTop' g h.top] at hend
  obtain ⟨g₀, hg0⟩ := Option.isSome_iff_exists.mp h.top
  obtain ⟨r, hr⟩ := State.topJava?_eq_some.mp hg0
  have hr' : (({ U with heap := s₂.heap, slotsUsed := s₂.slotsUsed } : State).setVm s₂.vm).frames = .java g₀ :: r := hr
  rcases hq' with ⟨hqc, L, hfe, hL⟩ | ⟨q, rfl, E, ce, L, hx, hce, hcv, hcl, hW₂, hsm, hL⟩
  · obtain ⟨⟨v, rfl⟩, hW₂, e2, q2, q3, q4, q5, q6⟩ := id hfe
    have e3 : s₂ = ({ (U.calling g mk a).setFrames s₂.frames with heap := s₂.heap, slotsUsed := s₂.slotsUsed } : State).setVm s₂.vm := by
      have : s₂ = ({ s₂ with vm := (U.calling g mk a).vm } : State).setVm s₂.vm := rfl
      rw [e2] at this
      exact this
    obtain ⟨c₂, i₂, len₂, hc₂, hd₂, hf₂⟩ := hend
    have hW' : U.WarmedH s₂.vm := hW₂
    have hcc : c₂ = c := by
      have h1 : s₂.code? g.method = U.code? g.method := by
        rw [State.code?_eq, State.code?_eq, hW'.alike.method?]
      exact Option.some.inj (hc₂.symm.trans (h1.trans h.code))
    subst hcc
    have hlen : len₂ = len := by rw [hdg] at hd₂; cases hd₂; rfl
    subst hlen
    have hs₂ : s₂ = (({ U with heap := s₂.heap, slotsUsed := s₂.slotsUsed } : State).setVm s₂.vm).setTop { g with pc := g.pc + len₂, stack := v.toList ++ g.stack } := by
      refine e3.trans ?_
      rw [hf₂, State.calling_eq h.top, State.setFrames_setFrames, State.setTop_of_frames _ hr', hr]
      rfl
    have hsame : U.sameButNew ({ U with heap := s₂.heap, slotsUsed := s₂.slotsUsed } : State) L mc ms := by
      refine ⟨?_, q2, q3, q4, q5, q6⟩
      obtain ⟨t, ht, -⟩ := State.frames_cons hr
      show ({ U with heap := s₂.heap, slotsUsed := s₂.slotsUsed } : State) = { U.setFrames U.frames with heap := s₂.heap, slotsUsed := s₂.slotsUsed }
      rw [State.setFrames_self ht]
    subst hg
    refine Or.inl ⟨v, ⟨(({ U with heap := s₂.heap, slotsUsed := s₂.slotsUsed } : State).setVm s₂.vm), Ls ++ L, c0 + mc, s0 + ms⟩,
      ⟨X.admits, X.cas, X.clock, X.frames, X.room, X.hears, X.method, X.code, (X.here.setHeapUsed s₂.heap s₂.slotsUsed).setVm hW'.alike, X.tail, State.WarmedH.trans X.warmed hW', X.limits, X.bytes, X.same.trans (hsame.setVm s.vm)⟩,
      ⟨g, mk, s₂, L, rfl, rfl, hqc, rfl, hL, rfl, rfl⟩, ?_⟩
    show Steps p.tables e below _ ((({ U with heap := s₂.heap, slotsUsed := s₂.slotsUsed } : State).setVm s₂.vm).setTop { g with pc := g.pc + len₂, stack := v.toList ++ g.stack })
    rw [← hs₂]
    exact hsteps
  · obtain ⟨e2, q2, q3, q4, q5, q6⟩ := id hsm
    have e3 : s₂ = ({ (U.calling g mk a).setFrames s₂.frames with heap := s₂.heap, slotsUsed := s₂.slotsUsed } : State).setVm s₂.vm := by
      have : s₂ = ({ s₂ with vm := (U.calling g mk a).vm } : State).setVm s₂.vm := rfl
      rw [e2] at this
      exact this
    have hf₂ : s₂.frames = .throwing q :: .java g :: U.frames.tail := hend
    have hW' : U.WarmedH s₂.vm := hW₂
    have hs₂ : s₂ = ((({ U with heap := s₂.heap, slotsUsed := s₂.slotsUsed } : State).setVm s₂.vm).setTop g).pushFrame (.throwing q) := by
      refine e3.trans ?_
      rw [hf₂, State.calling_eq h.top, State.setFrames_setFrames, State.pushFrame, State.frames_setTop _ hr', State.setTop_of_frames _ hr', State.setFrames_setFrames, hr]
      rfl
    have hsame : U.sameButNew ({ U with heap := s₂.heap, slotsUsed := s₂.slotsUsed } : State) L mc ms := by
      refine ⟨?_, q2, q3, q4, q5, q6⟩
      obtain ⟨t, ht, -⟩ := State.frames_cons hr
      show ({ U with heap := s₂.heap, slotsUsed := s₂.slotsUsed } : State) = { U.setFrames U.frames with heap := s₂.heap, slotsUsed := s₂.slotsUsed }
      rw [State.setFrames_self ht]
    subst hg
    refine Or.inr ⟨q, ⟨(({ U with heap := s₂.heap, slotsUsed := s₂.slotsUsed } : State).setVm s₂.vm), Ls ++ L, c0 + mc, s0 + ms⟩,
      ⟨X.admits, X.cas, X.clock, X.frames, X.room, X.hears, X.method, X.code, (X.here.setHeapUsed s₂.heap s₂.slotsUsed).setVm hW'.alike, X.tail, State.WarmedH.trans X.warmed hW', X.limits, X.bytes, X.same.trans (hsame.setVm s.vm)⟩,
      ⟨g, mk, s₂, L, E, ce, rfl, rfl, hx, hce, hcv, hcl, rfl, hL, rfl, rfl⟩, ?_⟩
    show Steps p.tables e below _ (((({ U with heap := s₂.heap, slotsUsed := s₂.slotsUsed } : State).setVm s₂.vm).setTop g).pushFrame (.throwing q))
    rw [← hs₂]
    exact hsteps
end
variable {p : Program} {l : Launch} {e : Env} {R : Room} {s : State} {m : MethodId} {args : Array Value} {below : List Frame} {meth : Method} {c : Code} {T : State} {H : Heap} {locs : List Loc} {cells slots : Nat}
theorem vx_callVX (X : Stand p l e R s m args below meth c T locs cells slots) (hexec : p.tables.exec = Jvm.exec) {own C : String} {index : Nat} {y : MethodName} {bytes : ByteArray} {maxL : Nat} {ret : Option FieldType} {hh : List (Nat × Nat × Nat × Nat)}
    (hown : s.vm.findClass own = some m.cls) (hlink : (Cond.methodLink own index y).before args s = true) (hinst : (Cond.instanceMethod y).before args s = true) (hsel : (Cond.selects C y y).before args s = true)
    (hcode : (Cond.codeWith y bytes maxL ret hh).before args s = true) (hy : y.cls ≠ "java/lang/invoke/MethodHandle" ∧ y.cls ≠ "java/lang/invoke/VarHandle")
    {W9 : Nat} {Pre : Pt → Array Value → Prop} {Post : Pt → Array Value → Option Value → Pt → Prop} {PostX : Pt → Array Value → Addr → Pt → Prop} (hK : vx_Back l R p e below s args y 3 W9 Pre Post PostX)
    {b : Addr} {cellB : Cell} (hcell : T.heap[b]? = some cellB) (hobj : cellB.vm.isStatics = false) (hcls : s.vm.findClass C = some cellB.cls)
    {g : JFrame} (hg : g.method = m) (hsize : g.locals.size = c.maxLocals) {argsL rest : List Value} (hlen : ∀ sig, parseMethodDescriptor y.desc = some sig → argsL.length = sig.parameters.length)
    (hstack : g.stack = argsL.reverse ++ .ref b :: rest) (hW : 2 * g.monitorRoom + (rest.map fun v => v.category).sum ≤ W9) (hdg : decode c.code g.pc = .ok (.invokevirtual index, 3))
    (hpre : ∀ vm₁, s.WarmedH vm₁ → Pre ⟨T.setVm vm₁, locs, cells, slots⟩ (Value.ref b :: argsL).toArray) :
    (∃ (v : Option Value) (vm₁ : Vm) (B : Pt), s.WarmedH vm₁ ∧ Stand p l e R s m args below meth c B.U B.locs B.cells B.slots ∧ Post ⟨T.setVm vm₁, locs, cells, slots⟩ (Value.ref b :: argsL).toArray v B ∧
      ∀ target, Steps p.tables e below (B.U.setTop { g with pc := g.pc + 3, stack := v.toList ++ rest }) target → Steps p.tables e below (T.setTop g) target) ∨
    (∃ (q : Addr) (vm₁ : Vm) (B : Pt), s.WarmedH vm₁ ∧ Stand p l e R s m args below meth c B.U B.locs B.cells B.slots ∧ PostX ⟨T.setVm vm₁, locs, cells, slots⟩ (Value.ref b :: argsL).toArray q B ∧
      Steps p.tables e below (T.setTop g) ((B.U.setTop { g with stack := rest }).pushFrame (.throwing q))) := by
  obtain ⟨mk, methM, hnamed, hmethM, hstM, habM⟩ := Cond.instanceMethod_spec hinst
  obtain ⟨m8, methM', cM, hn8, hmethM', -, -, -, -, -, -, hsigM⟩ := Cond.codeWith_spec hcode
  cases Option.some.inj (hn8.symm.trans hnamed)
  cases hmethM.symm.trans hmethM'
  obtain ⟨c2, r2, m2, q1, q2, q3, q4, kP, hkP, hkPi⟩ := Cond.selects_spec hsel
  cases hcls.symm.trans q1
  cases (State.methodFound?_of_named hnamed hy).symm.trans q2
  cases hnamed.symm.trans q3
  have hselP : selectMethod e.platform s.vm cellB.cls mk = .method mk := by rw [Launch.admits_selectMethod X.admits]; exact q4
  obtain ⟨vm₁, X₁, hstep₁⟩ := X.invokevirtual hexec hown hlink hnamed hmethM hstM hkP hkPi hy (a := b) (cell := cellB) hcell
    (fun z h => by rw [h] at hobj; cases hobj) hselP hmethM habM hkP hkPi (g := g) hg (argsL := argsL) (rest := rest) (hlen _ hsigM) hstack hdg
  rcases hK m meth c ⟨T.setVm vm₁, locs, cells, slots⟩ { g with stack := rest } (.invokevirtual index) mk (Value.ref b :: argsL).toArray X₁ hg hsize hdg hW (X₁.named hnamed) (hpre vm₁ X₁.warmed) with ⟨v, B, X', hpost, hsteps⟩ | ⟨q, B, X', hpost, hsteps⟩
  · exact Or.inl ⟨v, vm₁, B, X₁.warmed, X', hpost, fun target h => hstep₁ _ fun acts => by rw [doInvoke_state]; exact hsteps.trans h⟩
  · exact Or.inr ⟨q, vm₁, B, X₁.warmed, X', hpost, hstep₁ _ fun acts => by rw [doInvoke_state]; exact hsteps⟩
theorem vx_callSX (X : Stand p l e R s m args below meth c T locs cells slots) (hexec : p.tables.exec = Jvm.exec) {own : String} {index : Nat} {y : MethodName} {bytes : ByteArray} {maxL : Nat} {ret : Option FieldType} {hh : List (Nat × Nat × Nat × Nat)}
    (hown : s.vm.findClass own = some m.cls) (hlink : (Cond.methodLink own index y).before args s = true) (hstat : (Cond.static y).before args s = true) (hinit : (Cond.initialized y.cls).before args s = true)
    (hcode : (Cond.codeWith y bytes maxL ret hh).before args s = true) (hy : y.cls ≠ "java/lang/invoke/MethodHandle" ∧ y.cls ≠ "java/lang/invoke/VarHandle")
    {W9 : Nat} {Pre : Pt → Array Value → Prop} {Post : Pt → Array Value → Option Value → Pt → Prop} {PostX : Pt → Array Value → Addr → Pt → Prop} (hK : vx_Back l R p e below s args y 3 W9 Pre Post PostX)
    {g : JFrame} (hg : g.method = m) (hsize : g.locals.size = c.maxLocals) {argsL rest : List Value} (hlen : ∀ sig, parseMethodDescriptor y.desc = some sig → argsL.length = sig.parameters.length)
    (hstack : g.stack = argsL.reverse ++ rest) (hW : 2 * g.monitorRoom + (rest.map fun v => v.category).sum ≤ W9) (hdg : decode c.code g.pc = .ok (.invokestatic index, 3))
    (hpre : ∀ vm₁, s.WarmedH vm₁ → Pre ⟨T.setVm vm₁, locs, cells, slots⟩ argsL.toArray) :
    (∃ (v : Option Value) (vm₁ : Vm) (B : Pt), s.WarmedH vm₁ ∧ Stand p l e R s m args below meth c B.U B.locs B.cells B.slots ∧ Post ⟨T.setVm vm₁, locs, cells, slots⟩ argsL.toArray v B ∧
      ∀ target, Steps p.tables e below (B.U.setTop { g with pc := g.pc + 3, stack := v.toList ++ rest }) target → Steps p.tables e below (T.setTop g) target) ∨
    (∃ (q : Addr) (vm₁ : Vm) (B : Pt), s.WarmedH vm₁ ∧ Stand p l e R s m args below meth c B.U B.locs B.cells B.slots ∧ PostX ⟨T.setVm vm₁, locs, cells, slots⟩ argsL.toArray q B ∧
      Steps p.tables e below (T.setTop g) ((B.U.setTop { g with stack := rest }).pushFrame (.throwing q))) := by
  obtain ⟨mk, methM, cM, hnamed, hmethM, -, -, -, -, -, -, hsigM⟩ := Cond.codeWith_spec hcode
  have hstatic : methM.isStatic = true := Cond.static_spec hnamed hmethM hstat
  obtain ⟨kP, hkP, -⟩ := className_of_methodNamed hnamed
  have hinitP : kP.init = .initialized := Cond.initialized_spec (findClass_of_methodNamed hnamed) hkP hinit
  obtain ⟨vm₁, X₁, hstep₁⟩ := X.invokestatic hexec hown hlink hnamed hmethM hstatic hkP hinitP hy (g := g) hg (argsL := argsL) (rest := rest) (hlen _ hsigM) hstack hdg
  rcases hK m meth c ⟨T.setVm vm₁, locs, cells, slots⟩ { g with stack := rest } (.invokestatic index) mk argsL.toArray X₁ hg hsize hdg hW (X₁.named hnamed) (hpre vm₁ X₁.warmed) with ⟨v, B, X', hpost, hsteps⟩ | ⟨q, B, X', hpost, hsteps⟩
  · exact Or.inl ⟨v, vm₁, B, X₁.warmed, X', hpost, fun target h => hstep₁ _ fun acts => by rw [doInvoke_state]; exact hsteps.trans h⟩
  · exact Or.inr ⟨q, vm₁, B, X₁.warmed, X', hpost, hstep₁ _ fun acts => by rw [doInvoke_state]; exact hsteps⟩
theorem vx_callVW (X : Stand p l e R s m args below meth c T locs cells slots) (hexec : p.tables.exec = Jvm.exec) {own C : String} {index : Nat} {y : MethodName} {bytes : ByteArray} {maxL : Nat} {ret : Option FieldType} {hh : List (Nat × Nat × Nat × Nat)}
    (hown : s.vm.findClass own = some m.cls) (hlink : (Cond.methodLink own index y).before args s = true) (hinst : (Cond.instanceMethod y).before args s = true) (hsel : (Cond.selects C y y).before args s = true)
    (hcode : (Cond.codeWith y bytes maxL ret hh).before args s = true) (hy : y.cls ≠ "java/lang/invoke/MethodHandle" ∧ y.cls ≠ "java/lang/invoke/VarHandle")
    {W9 : Nat} {Pre : Pt → Array Value → Prop} {Post : Pt → Array Value → Option Value → Pt → Prop} (hK : Back l R p e below s args y 3 W9 Pre Post)
    {b : Addr} {cellB : Cell} (hcell : T.heap[b]? = some cellB) (hobj : cellB.vm.isStatics = false) (hcls : s.vm.findClass C = some cellB.cls)
    {g : JFrame} (hg : g.method = m) (hsize : g.locals.size = c.maxLocals) {argsL rest : List Value} (hlen : ∀ sig, parseMethodDescriptor y.desc = some sig → argsL.length = sig.parameters.length)
    (hstack : g.stack = argsL.reverse ++ .ref b :: rest) (hW : 2 * g.monitorRoom + (rest.map fun v => v.category).sum ≤ W9) (hdg : decode c.code g.pc = .ok (.invokevirtual index, 3))
    (hpre : ∀ vm₁, s.WarmedH vm₁ → Pre ⟨T.setVm vm₁, locs, cells, slots⟩ (Value.ref b :: argsL).toArray) :
    ∃ (v : Option Value) (vm₁ : Vm) (B : Pt), s.WarmedH vm₁ ∧ Stand p l e R s m args below meth c B.U B.locs B.cells B.slots ∧ Post ⟨T.setVm vm₁, locs, cells, slots⟩ (Value.ref b :: argsL).toArray v B ∧
      ∀ target, Steps p.tables e below (B.U.setTop { g with pc := g.pc + 3, stack := v.toList ++ rest }) target → Steps p.tables e below (T.setTop g) target := by
  obtain ⟨mk, methM, hnamed, hmethM, hstM, habM⟩ := Cond.instanceMethod_spec hinst
  obtain ⟨m8, methM', cM, hn8, hmethM', -, -, -, -, -, -, hsigM⟩ := Cond.codeWith_spec hcode
  cases Option.some.inj (hn8.symm.trans hnamed)
  cases hmethM.symm.trans hmethM'
  obtain ⟨c2, r2, m2, q1, q2, q3, q4, kP, hkP, hkPi⟩ := Cond.selects_spec hsel
  cases hcls.symm.trans q1
  cases (State.methodFound?_of_named hnamed hy).symm.trans q2
  cases hnamed.symm.trans q3
  have hselP : selectMethod e.platform s.vm cellB.cls mk = .method mk := by rw [Launch.admits_selectMethod X.admits]; exact q4
  obtain ⟨vm₁, X₁, hstep₁⟩ := X.invokevirtual hexec hown hlink hnamed hmethM hstM hkP hkPi hy (a := b) (cell := cellB) hcell
    (fun z h => by rw [h] at hobj; cases hobj) hselP hmethM habM hkP hkPi (g := g) hg (argsL := argsL) (rest := rest) (hlen _ hsigM) hstack hdg
  obtain ⟨v, B, X', hpost, hsteps⟩ := hK m meth c ⟨T.setVm vm₁, locs, cells, slots⟩ { g with stack := rest } (.invokevirtual index) mk (Value.ref b :: argsL).toArray X₁ hg hsize hdg hW (X₁.named hnamed) (hpre vm₁ X₁.warmed)
  exact ⟨v, vm₁, B, X₁.warmed, X', hpost, fun target h => hstep₁ _ fun acts => by rw [doInvoke_state]; exact hsteps.trans h⟩
abbrev vx_CVW (R : Room) (s : State) (args : Array Value) (own C : String) (index : Nat) (y : MethodName) (bytes : ByteArray) (maxL : Nat) (ret : Option FieldType) (hh : List (Nat × Nat × Nat × Nat)) (ws : List Cond) (rm : Room) (mc ms n : Nat) : Prop :=
  (rm.cells = mc ∧ rm.slots = ms ∧ rm.frames + 1 ≤ R.frames ∧ 8 + (maxL + 11) + rm.locals ≤ R.locals ∧ (∀ w ∈ ws, ∀ (a' : Array Value) (U : State), s.WarmedH U.vm → w.before a' U = true) ∧ Cond.codeWith y bytes maxL ret hh ∈ ws) ∧
  (Cond.codeWith y bytes maxL ret hh).before args s = true ∧ (Cond.initialized y.cls).before args s = true ∧ (y.cls ≠ "java/lang/invoke/MethodHandle" ∧ y.cls ≠ "java/lang/invoke/VarHandle") ∧
  (∀ sig, parseMethodDescriptor y.desc = some sig → n = sig.parameters.length) ∧ (Cond.methodLink own index y).before args s = true ∧ (Cond.instanceMethod y).before args s = true ∧ (Cond.selects C y y).before args s = true
theorem vx_cwVW {own C : String} {index maxL mc ms : Nat} {y : MethodName} {bytes : ByteArray} {ret : Option FieldType} {hh : List (Nat × Nat × Nat × Nat)} {Ts ws ws' : List Cond} {rm : Room} (n : Nat) (ht : ∀ w ∈ Ts, w.before args s = true) (hT : GoodIn Ts (wsV own index C y ws)) (hw : ws = Cond.codeWith y bytes maxL ret hh :: ws') (hrc : rm.cells = mc) (hrs : rm.slots = ms)
    (hd : y.cls = C ∧ y.cls ≠ "java/lang/invoke/MethodHandle" ∧ y.cls ≠ "java/lang/invoke/VarHandle" ∧ (parseMethodDescriptor y.desc).map (fun d => d.parameters.length) = some n) (hR : rm.frames + 1 ≤ R.frames ∧ 8 + (maxL + 11) + rm.locals ≤ R.locals) :
    vx_CVW R s args own C index y bytes maxL ret hh ws rm mc ms n := by
  obtain ⟨hC, hd⟩ := hd
  subst hC
  have ok : ∀ w ∈ wsV own index y.cls y ws, w.before args s = true := fun w h => ht w (hT w h).1
  have hG : GoodIn Ts ws := fun w h => hT w (by unfold wsV; exact List.mem_append_right _ h)
  have hc : Cond.codeWith y bytes maxL ret hh ∈ ws := by rw [hw]; exact List.mem_cons_self
  refine ⟨⟨hrc, hrs, hR.1, hR.2, pay_in ht hG, hc⟩, ht _ (hG _ hc).1, ok _ (by simp [wsV]), ⟨hd.1, hd.2.1⟩, fun sig h => ?_, ok _ (by simp [wsV]), ok _ (by simp [wsV]), ok _ (by simp [wsV])⟩
  have h2 := hd.2.2
  rw [h] at h2
  exact (Option.some.inj h2).symm
theorem vx_runVW {y : MethodName} {bytes cc : ByteArray} {maxL nL mc ms n index : Nat} {ret : Option FieldType} {hh : List (Nat × Nat × Nat × Nat)} {ws : List Cond} {rm : Room} {Pc : Array Value → State → Prop} {Qc : Array Value → State → Outcome → State → Prop} {free : Addr → Prop} {Ts : List Cond} {own C : String} {b : Addr} {As rest : List Value} {g : JFrame}
    (S : CallFix p m c cc nL s args Ts own) (hM : Met l y ws rm Pc Qc mc ms free) (cw : vx_CVW R s args own C index y bytes maxL ret hh ws rm mc ms n) (hp : PreV s H C b Pc As)
    (hg : g.method = m) (hn : As.length = n) (hsize : g.locals.size = nL) (hstack : g.stack = As.reverse ++ .ref b :: rest) (hW : 2 * g.monitorRoom + (rest.map fun v => v.category).sum ≤ 8) (hdg : decode cc g.pc = .ok (.invokevirtual index, 3)) (hf : cells + mc ≤ R.cells ∧ slots + ms ≤ R.slots) :
    va_Run p l e R s m args below meth c H locs cells slots mc ms g rest (Qc (Value.ref b :: As).toArray) free := by
  obtain ⟨⟨hrc, hrs, hfr, hlo, hws, hcw⟩, hcode, hini, hy, hlen, hl, hin, hse⟩ := cw
  have hK : Back l R p e below s args y 3 8 (PreOf R mc ms Pc) (PostOf Qc mc ms free) := va_backW (hh := hh) (bytes := bytes) (maxL := maxL) (ret := ret) hM hp.1 hrc hrs hfr hlo hws hcw (fun a' U hW => word_at hW (Or.inl (by first | rfl | simp [Cond.onTables, Cond.keeps, Cond.steady])) hini)
  obtain ⟨hx, hb, hml, ho, -⟩ := S
  obtain ⟨-, ⟨cellB, hcB, hoB, hclB⟩, hPc⟩ := hp
  intro T hT X
  obtain ⟨v, vm₁, ⟨U', l2, c2, s2⟩, hW₁, X', ⟨g', mk, t, L, e1, e2, hq, h1, hL, h2, h3⟩, st⟩ := vx_callVW X hx (C := C) (hh := hh) (bytes := bytes) (maxL := maxL) (ret := ret) ho hl hin hse hcode hy hK (by rw [hT]; exact hcB) hoB hclB hg (hsize.trans hml.symm) (argsL := As) (rest := rest) (fun sig h => hn.trans (hlen sig h)) hstack hW (by rw [hb]; exact hdg)
    (fun vm₁ hW₁ => ⟨hf.1, hf.2, hPc (T.setVm vm₁) hT hW₁⟩)
  dsimp only [Pt.U, Pt.locs, Pt.cells, Pt.slots] at X' e1 e2 h1 h2 h3 st
  subst h1; subst h2; subst h3
  exact ⟨v, (T.setVm vm₁).calling g' mk (Value.ref b :: As).toArray, t, U', L, hT, X', hL, e1, e2, hq, st⟩
section
variable {y : MethodName} {bytes cc : ByteArray} {maxL nL mc ms n index : Nat} {ret : Option FieldType} {ws : List Cond} {rm : Room} {Pc : Array Value → State → Prop} {Qc : Array Value → State → Outcome → State → Prop} {XC : String → State → State → Prop} {free : Addr → Prop} {Ts : List Cond} {own C : String} {b : Addr} {As rest : List Value} {g : JFrame}
theorem vx_runVX {hh : List (Nat × Nat × Nat × Nat)} (S : CallFix p m c cc nL s args Ts own) (hM : vx_Met l y ws rm Pc Qc XC mc ms free) (cw : vx_CVW R s args own C index y bytes maxL ret hh ws rm mc ms n) (hp : PreV s H C b Pc As)
    (hg : g.method = m) (hn : As.length = n) (hsize : g.locals.size = nL) (hstack : g.stack = As.reverse ++ .ref b :: rest) (hW : 2 * g.monitorRoom + (rest.map fun v => v.category).sum ≤ 8) (hdg : decode cc g.pc = .ok (.invokevirtual index, 3)) (hf : cells + mc ≤ R.cells ∧ slots + ms ≤ R.slots) :
    vx_Run p l e R s m args below meth c H locs cells slots mc ms g rest (Qc (Value.ref b :: As).toArray) XC free := by
  obtain ⟨⟨hrc, hrs, hfr, hlo, hws, hcw⟩, hcode, hini, hy, hlen, hl, hin, hse⟩ := cw
  have hK : vx_Back l R p e below s args y 3 8 (PreOf R mc ms Pc) (PostOf Qc mc ms free) (vx_Post XC mc ms free) := vx_backW (hh := hh) (bytes := bytes) (maxL := maxL) (ret := ret) hM hp.1 hrc hrs hfr hlo hws hcw (fun a' U hW => word_at hW (Or.inl (by first | rfl | simp [Cond.onTables, Cond.keeps, Cond.steady])) hini)
  obtain ⟨hx, hb, hml, ho, -⟩ := S
  obtain ⟨-, ⟨cellB, hcB, hoB, hclB⟩, hPc⟩ := hp
  intro T hT X
  rcases vx_callVX X hx (C := C) (hh := hh) (bytes := bytes) (maxL := maxL) (ret := ret) ho hl hin hse hcode hy hK (by rw [hT]; exact hcB) hoB hclB hg (hsize.trans hml.symm) (argsL := As) (rest := rest) (fun sig h => hn.trans (hlen sig h)) hstack hW (by rw [hb]; exact hdg)
    (fun vm₁ hW₁ => ⟨hf.1, hf.2, hPc (T.setVm vm₁) hT hW₁⟩) with ⟨v, vm₁, ⟨U', l2, c2, s2⟩, hW₁, X', ⟨g', mk, t, L, e1, e2, hq, h1, hL, h2, h3⟩, st⟩ | ⟨q, vm₁, ⟨U', l2, c2, s2⟩, hW₁, X', ⟨g', mk, t, L, E, ce, e1, e2, hq, hce, hcv, hcl, h1, hL, h2, h3⟩, st⟩
  · dsimp only [Pt.U, Pt.locs, Pt.cells, Pt.slots] at X' e1 e2 h1 h2 h3 st
    subst h1; subst h2; subst h3
    exact Or.inl ⟨v, (T.setVm vm₁).calling g' mk (Value.ref b :: As).toArray, t, U', L, hT, X', hL, e1, e2, hq, st⟩
  · dsimp only [Pt.U, Pt.locs, Pt.cells, Pt.slots] at X' e1 e2 h1 h2 h3 st hcl
    subst h1; subst h2; subst h3
    exact Or.inr ⟨q, (T.setVm vm₁).calling g' mk (Value.ref b :: As).toArray, t, U', L, E, ce, hT, X', hL, e1, e2, hq, hce, hcv, vx_cls hW₁ hcl, st⟩
theorem vx_runSX {hh : List (Nat × Nat × Nat × Nat)} (S : CallFix p m c cc nL s args Ts own) (hM : vx_Met l y ws rm Pc Qc XC mc ms free) (cw : vx_CSW R s args own index y bytes maxL ret hh ws rm mc ms n) (hp : PreS s H Pc As)
    (hg : g.method = m) (hn : As.length = n) (hsize : g.locals.size = nL) (hstack : g.stack = As.reverse ++ rest) (hW : 2 * g.monitorRoom + (rest.map fun v => v.category).sum ≤ 8) (hdg : decode cc g.pc = .ok (.invokestatic index, 3)) (hf : cells + mc ≤ R.cells ∧ slots + ms ≤ R.slots) :
    vx_Run p l e R s m args below meth c H locs cells slots mc ms g rest (Qc As.toArray) XC free := by
  obtain ⟨⟨hrc, hrs, hfr, hlo, hws, hcw⟩, hcode, hini, hy, hlen, hl, hstt⟩ := cw
  have hK : vx_Back l R p e below s args y 3 8 (PreOf R mc ms Pc) (PostOf Qc mc ms free) (vx_Post XC mc ms free) := vx_backW (hh := hh) (bytes := bytes) (maxL := maxL) (ret := ret) hM hp.1 hrc hrs hfr hlo hws hcw (fun a' U hW => word_at hW (Or.inl (by first | rfl | simp [Cond.onTables, Cond.keeps, Cond.steady])) hini)
  obtain ⟨hx, hb, hml, ho, -⟩ := S
  intro T hT X
  rcases vx_callSX X hx (hh := hh) (bytes := bytes) (maxL := maxL) (ret := ret) ho hl hstt hini hcode hy hK hg (hsize.trans hml.symm) (argsL := As) (rest := rest) (fun sig h => hn.trans (hlen sig h)) hstack hW (by rw [hb]; exact hdg)
    (fun vm₁ hW₁ => ⟨hf.1, hf.2, hp.2 (T.setVm vm₁) hT hW₁⟩) with ⟨v, vm₁, ⟨U', l2, c2, s2⟩, hW₁, X', ⟨g', mk, t, L, e1, e2, hq, h1, hL, h2, h3⟩, st⟩ | ⟨q, vm₁, ⟨U', l2, c2, s2⟩, hW₁, X', ⟨g', mk, t, L, E, ce, e1, e2, hq, hce, hcv, hcl, h1, hL, h2, h3⟩, st⟩
  · dsimp only [Pt.U, Pt.locs, Pt.cells, Pt.slots] at X' e1 e2 h1 h2 h3 st
    subst h1; subst h2; subst h3
    exact Or.inl ⟨v, (T.setVm vm₁).calling g' mk As.toArray, t, U', L, hT, X', hL, e1, e2, hq, st⟩
  · dsimp only [Pt.U, Pt.locs, Pt.cells, Pt.slots] at X' e1 e2 h1 h2 h3 st hcl
    subst h1; subst h2; subst h3
    exact Or.inr ⟨q, (T.setVm vm₁).calling g' mk As.toArray, t, U', L, E, ce, hT, X', hL, e1, e2, hq, hce, hcv, vx_cls hW₁ hcl, st⟩
end
end VXH
theorem vx_ofWH {l : Launch} {y : MethodName} {ws ws' : List Cond} {rm : Room} {Pc : Array Value → State → Prop} {Qc : Array Value → State → Outcome → State → Prop} {XC : String → State → State → Prop} {mc ms : Nat} {free : Addr → Prop} {cc : ByteArray} {maxL : Nat} {ret : Option FieldType} {hh : List (Nat × Nat × Nat × Nat)}
    (hy : plainName y.cls = true) (hw : ws = Cond.codeWith y cc maxL ret hh :: ws')
    (body : ∀ p e s m args below meth c s₁, BodyLoose p l y (headSpec ws rm) cc maxL ret e s m args below meth c s₁ → c.maxLocals = maxL → Pc args s →
      W p l e (headSpec ws rm).room s m args below meth c s.heap [] 0 0 (vx_MQ below Qc XC args s mc ms free) (entryFrame m args maxL)) : vx_Met l y ws rm Pc Qc XC mc ms free := by
  refine MetFree.of_bodyS (code := cc) (maxLocals := maxL) (ret := ret) hy ?_ ?_
  · intro args s m h hn
    obtain ⟨m9, meth, c, hn9, h1, h2, h3, h4, -, h5, h6, -⟩ := Cond.codeWith_spec (atoms_spec (ws := ws) h _ (by rw [hw]; exact List.mem_cons_self))
    cases hn.symm.trans hn9
    exact ⟨meth, c, h1, h2, h3, h4, h5, h6⟩
  · intro p e s m args below meth c s₁ B hml hP _
    have hh0 : s₁.heap = s.heap := by rw [B.state]; rfl
    obtain ⟨t, a1, o, b1, b2, b3⟩ := body p e s m args below meth c s₁ B hml hP s₁ hh0 (Stand.of_body B)
    exact ⟨t, o, a1, b1, b2, b3⟩
/-! ===== END ===== -/
end
section
/-! ===== BEGIN printed: names, fields, word lists, decode rows ===== -/
def RX0 : String := "StampWorks$Box"
def TX0 : u_T := fun k => match k with
  | 0 => ("StampWorks$Box", "stamps", "[LStampWorks$Stamp;", true)
  | 1 => ("StampWorks$Box", "lumps", "LStampWorks$Ore;", true)
  | 2 => ("StampWorks$Box", "grit", "LStampWorks$Ore;", true)
  | 3 => ("StampWorks$Box", "sand", "LStampWorks$Ore;", true)
  | 4 => ("StampWorks$Box", "stampCount", "I", false)
  | 5 => ("StampWorks$Box", "feed", "I", false)
  | 6 => ("StampWorks$Box", "buddle", "I", false)
  | 7 => ("StampWorks$Box", "hardness", "I", false)
  | _ => ("StampWorks$Box", "force", "I", false)
def tyX0 : Nat → FieldType := fun k => match k with
  | 0 => .array (.object "StampWorks$Stamp")
  | 1 => .object "StampWorks$Ore"
  | 2 => .object "StampWorks$Ore"
  | 3 => .object "StampWorks$Ore"
  | 4 => .int
  | 5 => .int
  | 6 => .int
  | 7 => .int
  | _ => .int
abbrev wsX00 : List Cond := u_ws RX0 TX0 9
theorem nmX0 : ∀ a, a < 9 → ∀ b, b < 9 → a ≠ b → (TX0 a).2.1 ≠ (TX0 b).2.1 := by decide +kernel
theorem tyX0_ok : ∀ k, k < 9 → parseFieldDescriptor (TX0 k).2.2.1 = some (tyX0 k) := by decide +kernel
abbrev cX0_init : ByteArray := prog_2_method_1_code
def yX0_init : MethodName := ⟨RX0, "<init>", "()V"⟩
abbrev cX0_addStamp : ByteArray := prog_2_method_2_code
def yX0_addStamp : MethodName := ⟨RX0, "addStamp", "(II)V"⟩
abbrev cX0_tellOfBox : ByteArray := prog_2_method_3_code
def yX0_tellOfBox : MethodName := ⟨RX0, "tellOfBox", "(I)I"⟩
abbrev cX0_tinOfSizes : ByteArray := prog_2_method_4_code
def yX0_tinOfSizes : MethodName := ⟨RX0, "tinOfSizes", "()I"⟩
abbrev cX0_wearOfStamps : ByteArray := prog_2_method_5_code
def yX0_wearOfStamps : MethodName := ⟨RX0, "wearOfStamps", "()I"⟩
abbrev cX0_loadOfStamps : ByteArray := prog_2_method_6_code
def yX0_loadOfStamps : MethodName := ⟨RX0, "loadOfStamps", "()I"⟩
abbrev cX0_forceOfStamps : ByteArray := prog_2_method_7_code
def yX0_forceOfStamps : MethodName := ⟨RX0, "forceOfStamps", "(I)I"⟩
abbrev cX0_blow : ByteArray := prog_2_method_8_code
def yX0_blow : MethodName := ⟨RX0, "blow", "(I)V"⟩
abbrev cX0_loseSlime : ByteArray := prog_2_method_9_code
def yX0_loseSlime : MethodName := ⟨RX0, "loseSlime", "()I"⟩
abbrev cX0_grate : ByteArray := prog_2_method_10_code
def yX0_grate : MethodName := ⟨RX0, "grate", "(LStampWorks$Ore;I)V"⟩
abbrev cX0_wearStamps : ByteArray := prog_2_method_11_code
def yX0_wearStamps : MethodName := ⟨RX0, "wearStamps", "(I)V"⟩
abbrev cX0_copyBox : ByteArray := prog_2_method_12_code
def yX0_copyBox : MethodName := ⟨RX0, "copyBox", "(LStampWorks$Box;)V"⟩
def RX1 : String := "StampWorks$Hopper"
def TX1 : u_T := fun k => match k with
  | 0 => ("StampWorks$Hopper", "ring", "[LStampWorks$Lot;", true)
  | 1 => ("StampWorks$Hopper", "first", "I", false)
  | _ => ("StampWorks$Hopper", "count", "I", false)
def tyX1 : Nat → FieldType := fun k => match k with
  | 0 => .array (.object "StampWorks$Lot")
  | 1 => .int
  | _ => .int
abbrev wsX10 : List Cond := u_ws RX1 TX1 3
theorem nmX1 : ∀ a, a < 3 → ∀ b, b < 3 → a ≠ b → (TX1 a).2.1 ≠ (TX1 b).2.1 := by decide +kernel
theorem tyX1_ok : ∀ k, k < 3 → parseFieldDescriptor (TX1 k).2.2.1 = some (tyX1 k) := by decide +kernel
abbrev cX1_init : ByteArray := prog_3_method_1_code
def yX1_init : MethodName := ⟨RX1, "<init>", "()V"⟩
abbrev cX1_lotAt : ByteArray := prog_3_method_2_code
def yX1_lotAt : MethodName := ⟨RX1, "lotAt", "(I)LStampWorks$Lot;"⟩
abbrev cX1_addLot : ByteArray := prog_3_method_3_code
def yX1_addLot : MethodName := ⟨RX1, "addLot", "(III)V"⟩
abbrev cX1_dropFirst : ByteArray := prog_3_method_4_code
def yX1_dropFirst : MethodName := ⟨RX1, "dropFirst", "()V"⟩
abbrev cX1_oreOfLots : ByteArray := prog_3_method_5_code
def yX1_oreOfLots : MethodName := ⟨RX1, "oreOfLots", "()I"⟩
abbrev cX1_feedInto : ByteArray := prog_3_method_6_code
def yX1_feedInto : MethodName := ⟨RX1, "feedInto", "(LStampWorks$Ore;II)I"⟩
abbrev cX1_copyHopper : ByteArray := prog_3_method_7_code
def yX1_copyHopper : MethodName := ⟨RX1, "copyHopper", "(LStampWorks$Hopper;)V"⟩
def RX2 : String := "StampWorks$Lot"
def TX2 : u_T := fun k => match k with
  | 0 => ("StampWorks$Lot", "ore", "LStampWorks$Ore;", true)
  | _ => ("StampWorks$Lot", "hardness", "I", false)
def tyX2 : Nat → FieldType := fun k => match k with
  | 0 => .object "StampWorks$Ore"
  | _ => .int
abbrev wsX20 : List Cond := u_ws RX2 TX2 2
theorem nmX2 : ∀ a, a < 2 → ∀ b, b < 2 → a ≠ b → (TX2 a).2.1 ≠ (TX2 b).2.1 := by decide +kernel
theorem tyX2_ok : ∀ k, k < 2 → parseFieldDescriptor (TX2 k).2.2.1 = some (tyX2 k) := by decide +kernel
abbrev cX2_init : ByteArray := prog_4_method_1_code
def yX2_init : MethodName := ⟨RX2, "<init>", "()V"⟩
abbrev cX2_tellOfLot : ByteArray := prog_4_method_2_code
def yX2_tellOfLot : MethodName := ⟨RX2, "tellOfLot", "(I)I"⟩
abbrev cX2_copyLot : ByteArray := prog_4_method_3_code
def yX2_copyLot : MethodName := ⟨RX2, "copyLot", "(LStampWorks$Lot;)V"⟩
def RX3 : String := "StampWorks$Ore"
def TX3 : u_T := fun k => match k with
  | 0 => ("StampWorks$Ore", "rock", "I", false)
  | _ => ("StampWorks$Ore", "tin", "I", false)
def tyX3 : Nat → FieldType := fun k => match k with
  | 0 => .int
  | _ => .int
abbrev wsX30 : List Cond := u_ws RX3 TX3 2
theorem nmX3 : ∀ a, a < 2 → ∀ b, b < 2 → a ≠ b → (TX3 a).2.1 ≠ (TX3 b).2.1 := by decide +kernel
theorem tyX3_ok : ∀ k, k < 2 → parseFieldDescriptor (TX3 k).2.2.1 = some (tyX3 k) := by decide +kernel
abbrev cX3_init : ByteArray := prog_5_method_1_code
def yX3_init : MethodName := ⟨RX3, "<init>", "()V"⟩
abbrev cX3_whole : ByteArray := prog_5_method_2_code
def yX3_whole : MethodName := ⟨RX3, "whole", "()I"⟩
abbrev cX3_tellOfOre : ByteArray := prog_5_method_3_code
def yX3_tellOfOre : MethodName := ⟨RX3, "tellOfOre", "(I)I"⟩
abbrev cX3_put : ByteArray := prog_5_method_4_code
def yX3_put : MethodName := ⟨RX3, "put", "(II)V"⟩
abbrev cX3_become : ByteArray := prog_5_method_5_code
def yX3_become : MethodName := ⟨RX3, "become", "(II)V"⟩
abbrev cX3_copyOre : ByteArray := prog_5_method_6_code
def yX3_copyOre : MethodName := ⟨RX3, "copyOre", "(LStampWorks$Ore;)V"⟩
abbrev cX3_moveTo : ByteArray := prog_5_method_7_code
def yX3_moveTo : MethodName := ⟨RX3, "moveTo", "(LStampWorks$Ore;I)I"⟩
def RX4 : String := "StampWorks$Stamp"
def TX4 : u_T := fun k => match k with
  | 0 => ("StampWorks$Stamp", "weight", "I", false)
  | 1 => ("StampWorks$Stamp", "cams", "I", false)
  | _ => ("StampWorks$Stamp", "wear", "I", false)
def tyX4 : Nat → FieldType := fun k => match k with
  | 0 => .int
  | 1 => .int
  | _ => .int
abbrev wsX40 : List Cond := u_ws RX4 TX4 3
theorem nmX4 : ∀ a, a < 3 → ∀ b, b < 3 → a ≠ b → (TX4 a).2.1 ≠ (TX4 b).2.1 := by decide +kernel
theorem tyX4_ok : ∀ k, k < 3 → parseFieldDescriptor (TX4 k).2.2.1 = some (tyX4 k) := by decide +kernel
abbrev cX4_init : ByteArray := prog_6_method_1_code
def yX4_init : MethodName := ⟨RX4, "<init>", "()V"⟩
abbrev cX4_loadOfStamp : ByteArray := prog_6_method_2_code
def yX4_loadOfStamp : MethodName := ⟨RX4, "loadOfStamp", "()I"⟩
abbrev cX4_forceOfStamp : ByteArray := prog_6_method_3_code
def yX4_forceOfStamp : MethodName := ⟨RX4, "forceOfStamp", "(I)I"⟩
abbrev cX4_wearBy : ByteArray := prog_6_method_4_code
def yX4_wearBy : MethodName := ⟨RX4, "wearBy", "(I)V"⟩
abbrev cX4_copyStamp : ByteArray := prog_6_method_5_code
def yX4_copyStamp : MethodName := ⟨RX4, "copyStamp", "(LStampWorks$Stamp;)V"⟩
def RX5 : String := "StampWorks$Works"
def TX5 : u_T := fun k => match k with
  | 0 => ("StampWorks$Works", "inflow", "[I", true)
  | 1 => ("StampWorks$Works", "boxes", "[LStampWorks$Box;", true)
  | 2 => ("StampWorks$Works", "hopper", "LStampWorks$Hopper;", true)
  | 3 => ("StampWorks$Works", "buddles", "[LStampWorks$Ore;", true)
  | 4 => ("StampWorks$Works", "store", "LStampWorks$Ore;", true)
  | 5 => ("StampWorks$Works", "tails", "LStampWorks$Ore;", true)
  | 6 => ("StampWorks$Works", "hour", "I", false)
  | 7 => ("StampWorks$Works", "pond", "I", false)
  | 8 => ("StampWorks$Works", "sluice", "I", false)
  | 9 => ("StampWorks$Works", "boxCount", "I", false)
  | 10 => ("StampWorks$Works", "slime", "I", false)
  | _ => ("StampWorks$Works", "metal", "I", false)
def tyX5 : Nat → FieldType := fun k => match k with
  | 0 => .array .int
  | 1 => .array (.object "StampWorks$Box")
  | 2 => .object "StampWorks$Hopper"
  | 3 => .array (.object "StampWorks$Ore")
  | 4 => .object "StampWorks$Ore"
  | 5 => .object "StampWorks$Ore"
  | 6 => .int
  | 7 => .int
  | 8 => .int
  | 9 => .int
  | 10 => .int
  | _ => .int
abbrev wsX50 : List Cond := u_ws RX5 TX5 12
theorem nmX5 : ∀ a, a < 12 → ∀ b, b < 12 → a ≠ b → (TX5 a).2.1 ≠ (TX5 b).2.1 := by decide +kernel
theorem tyX5_ok : ∀ k, k < 12 → parseFieldDescriptor (TX5 k).2.2.1 = some (tyX5 k) := by decide +kernel
abbrev cX5_init : ByteArray := prog_7_method_1_code
def yX5_init : MethodName := ⟨RX5, "<init>", "()V"⟩
abbrev cX5_tellOfWorks : ByteArray := prog_7_method_2_code
def yX5_tellOfWorks : MethodName := ⟨RX5, "tellOfWorks", "(I)I"⟩
abbrev cX5_loadOfWheel : ByteArray := prog_7_method_3_code
def yX5_loadOfWheel : MethodName := ⟨RX5, "loadOfWheel", "()I"⟩
abbrev cX5_tinOfBoxes : ByteArray := prog_7_method_4_code
def yX5_tinOfBoxes : MethodName := ⟨RX5, "tinOfBoxes", "()I"⟩
abbrev cX5_tinOfBuddles : ByteArray := prog_7_method_5_code
def yX5_tinOfBuddles : MethodName := ⟨RX5, "tinOfBuddles", "()I"⟩
abbrev cX5_passHours : ByteArray := prog_7_method_6_code
def yX5_passHours : MethodName := ⟨RX5, "passHours", "(I)I"⟩
abbrev cX5_passHour : ByteArray := prog_7_method_7_code
def yX5_passHour : MethodName := ⟨RX5, "passHour", "()I"⟩
abbrev cX5_takeWater : ByteArray := prog_7_method_8_code
def yX5_takeWater : MethodName := ⟨RX5, "takeWater", "()I"⟩
abbrev cX5_workBox : ByteArray := prog_7_method_9_code
def yX5_workBox : MethodName := ⟨RX5, "workBox", "(LStampWorks$Box;II)V"⟩
abbrev cX5_partByWater : ByteArray := prog_7_method_10_code
def yX5_partByWater : MethodName := ⟨RX5, "partByWater", "(LStampWorks$Ore;I)I"⟩
abbrev cX5_smeltFromStore : ByteArray := prog_7_method_11_code
def yX5_smeltFromStore : MethodName := ⟨RX5, "smeltFromStore", "(I)I"⟩
abbrev cX5_copyWorks : ByteArray := prog_7_method_12_code
def yX5_copyWorks : MethodName := ⟨RX5, "copyWorks", "(LStampWorks$Works;)V"⟩
def RX6 : String := "StampWorks"
def TX6 : u_T := fun k => match k with
  | 0 => ("StampWorks", "works", "LStampWorks$Works;", true)
  | _ => ("StampWorks", "trial", "LStampWorks$Works;", true)
def tyX6 : Nat → FieldType := fun k => match k with
  | 0 => .object "StampWorks$Works"
  | _ => .object "StampWorks$Works"
abbrev wsX60 : List Cond := u_ws RX6 TX6 2
theorem nmX6 : ∀ a, a < 2 → ∀ b, b < 2 → a ≠ b → (TX6 a).2.1 ≠ (TX6 b).2.1 := by decide +kernel
theorem tyX6_ok : ∀ k, k < 2 → parseFieldDescriptor (TX6 k).2.2.1 = some (tyX6 k) := by decide +kernel
abbrev cX6_init : ByteArray := prog_1_method_1_code
def yX6_init : MethodName := ⟨RX6, "<init>", "()V"⟩
abbrev cX6_setInflow : ByteArray := prog_1_method_2_code
def yX6_setInflow : MethodName := ⟨RX6, "setInflow", "(II)I"⟩
abbrev cX6_setSluice : ByteArray := prog_1_method_3_code
def yX6_setSluice : MethodName := ⟨RX6, "setSluice", "(I)I"⟩
abbrev cX6_addBox : ByteArray := prog_1_method_4_code
def yX6_addBox : MethodName := ⟨RX6, "addBox", "()I"⟩
abbrev cX6_hang : ByteArray := prog_1_method_5_code
def yX6_hang : MethodName := ⟨RX6, "hang", "(III)I"⟩
abbrev cX6_shoe : ByteArray := prog_1_method_6_code
def yX6_shoe : MethodName := ⟨RX6, "shoe", "(II)I"⟩
abbrev cX6_setBox : ByteArray := prog_1_method_7_code
def yX6_setBox : MethodName := ⟨RX6, "setBox", "(III)I"⟩
abbrev cX6_box : ByteArray := prog_1_method_8_code
def yX6_box : MethodName := ⟨RX6, "box", "(II)I"⟩
abbrev cX6_bring : ByteArray := prog_1_method_9_code
def yX6_bring : MethodName := ⟨RX6, "bring", "(III)I"⟩
abbrev cX6_lot : ByteArray := prog_1_method_10_code
def yX6_lot : MethodName := ⟨RX6, "lot", "(II)I"⟩
abbrev cX6_run : ByteArray := prog_1_method_11_code
def yX6_run : MethodName := ⟨RX6, "run", "(I)I"⟩
abbrev cX6_count : ByteArray := prog_1_method_12_code
def yX6_count : MethodName := ⟨RX6, "count", "(I)I"⟩
abbrev cX6_buddle : ByteArray := prog_1_method_13_code
def yX6_buddle : MethodName := ⟨RX6, "buddle", "(II)I"⟩
abbrev cX6_wash : ByteArray := prog_1_method_14_code
def yX6_wash : MethodName := ⟨RX6, "wash", "(II)I"⟩
abbrev cX6_again : ByteArray := prog_1_method_15_code
def yX6_again : MethodName := ⟨RX6, "again", "(I)I"⟩
abbrev cX6_smelt : ByteArray := prog_1_method_16_code
def yX6_smelt : MethodName := ⟨RX6, "smelt", "(I)I"⟩
abbrev cX6_foresee : ByteArray := prog_1_method_17_code
def yX6_foresee : MethodName := ⟨RX6, "foresee", "(II)I"⟩
abbrev cX6_advise : ByteArray := prog_1_method_18_code
def yX6_advise : MethodName := ⟨RX6, "advise", "(I)I"⟩
abbrev cX6_bestWater : ByteArray := prog_1_method_19_code
def yX6_bestWater : MethodName := ⟨RX6, "bestWater", "(II)I"⟩
abbrev cX6_share : ByteArray := prog_1_method_20_code
def yX6_share : MethodName := ⟨RX6, "share", "()D"⟩
abbrev cX6_digest : ByteArray := prog_1_method_21_code
def yX6_digest : MethodName := ⟨RX6, "digest", "()J"⟩
abbrev cX6_boxNumbered : ByteArray := prog_1_method_22_code
def yX6_boxNumbered : MethodName := ⟨RX6, "boxNumbered", "(I)LStampWorks$Box;"⟩
abbrev cX6_buddleNumbered : ByteArray := prog_1_method_23_code
def yX6_buddleNumbered : MethodName := ⟨RX6, "buddleNumbered", "(I)LStampWorks$Ore;"⟩
abbrev cX6_refuseFullHopper : ByteArray := prog_1_method_24_code
def yX6_refuseFullHopper : MethodName := ⟨RX6, "refuseFullHopper", "()V"⟩
abbrev cX6_refuseHours : ByteArray := prog_1_method_25_code
def yX6_refuseHours : MethodName := ⟨RX6, "refuseHours", "(II)V"⟩
abbrev cX6_refuseLateHour : ByteArray := prog_1_method_26_code
def yX6_refuseLateHour : MethodName := ⟨RX6, "refuseLateHour", "(I)V"⟩
abbrev cX6_join : ByteArray := prog_1_method_27_code
def yX6_join : MethodName := ⟨RX6, "join", "(JJ)J"⟩
abbrev cX6_joinBox : ByteArray := prog_1_method_28_code
def yX6_joinBox : MethodName := ⟨RX6, "joinBox", "(JLStampWorks$Box;)J"⟩
abbrev cX6_joinLot : ByteArray := prog_1_method_29_code
def yX6_joinLot : MethodName := ⟨RX6, "joinLot", "(JLStampWorks$Lot;)J"⟩
abbrev cX6_joinBuddle : ByteArray := prog_1_method_30_code
def yX6_joinBuddle : MethodName := ⟨RX6, "joinBuddle", "(JLStampWorks$Ore;)J"⟩
abbrev cX6_gradeOf : ByteArray := prog_1_method_31_code
def yX6_gradeOf : MethodName := ⟨RX6, "gradeOf", "(II)I"⟩
abbrev cX6_tinOfHead : ByteArray := prog_1_method_32_code
def yX6_tinOfHead : MethodName := ⟨RX6, "tinOfHead", "(II)I"⟩
abbrev cX6_rockOfHead : ByteArray := prog_1_method_33_code
def yX6_rockOfHead : MethodName := ⟨RX6, "rockOfHead", "(II)I"⟩
abbrev cX6_partOf : ByteArray := prog_1_method_34_code
def yX6_partOf : MethodName := ⟨RX6, "partOf", "(III)I"⟩
def RX7 : String := "StampWorksModel$State"
def TX7 : u_T := fun k => match k with
  | 0 => ("StampWorksModel$State", "hour", "I", false)
  | 1 => ("StampWorksModel$State", "pond", "I", false)
  | 2 => ("StampWorksModel$State", "sluice", "I", false)
  | 3 => ("StampWorksModel$State", "inflow", "[I", true)
  | 4 => ("StampWorksModel$State", "boxes", "I", false)
  | 5 => ("StampWorksModel$State", "stamps", "[I", true)
  | 6 => ("StampWorksModel$State", "weight", "[I", true)
  | 7 => ("StampWorksModel$State", "cams", "[I", true)
  | 8 => ("StampWorksModel$State", "wear", "[I", true)
  | 9 => ("StampWorksModel$State", "feed", "[I", true)
  | 10 => ("StampWorksModel$State", "goes", "[I", true)
  | 11 => ("StampWorksModel$State", "hardness", "[I", true)
  | 12 => ("StampWorksModel$State", "force", "[I", true)
  | 13 => ("StampWorksModel$State", "ore", "[I", true)
  | 14 => ("StampWorksModel$State", "lots", "I", false)
  | 15 => ("StampWorksModel$State", "lot", "[I", true)
  | 16 => ("StampWorksModel$State", "buddle", "[I", true)
  | _ => ("StampWorksModel$State", "slime", "I", false)
def tyX7 : Nat → FieldType := fun k => match k with
  | 0 => .int
  | 1 => .int
  | 2 => .int
  | 3 => .array .int
  | 4 => .int
  | 5 => .array .int
  | 6 => .array .int
  | 7 => .array .int
  | 8 => .array .int
  | 9 => .array .int
  | 10 => .array .int
  | 11 => .array .int
  | 12 => .array .int
  | 13 => .array .int
  | 14 => .int
  | 15 => .array .int
  | 16 => .array .int
  | _ => .int
abbrev wsX70 : List Cond := u_ws RX7 TX7 18
theorem nmX7 : ∀ a, a < 18 → ∀ b, b < 18 → a ≠ b → (TX7 a).2.1 ≠ (TX7 b).2.1 := by decide +kernel
theorem tyX7_ok : ∀ k, k < 18 → parseFieldDescriptor (TX7 k).2.2.1 = some (tyX7 k) := by decide +kernel
abbrev cX7_init : ByteArray := prog_10_method_1_code
def yX7_init : MethodName := ⟨RX7, "<init>", "()V"⟩
abbrev cX7_copy : ByteArray := prog_10_method_2_code
def yX7_copy : MethodName := ⟨RX7, "copy", "([I[I)V"⟩
abbrev cX7_become : ByteArray := prog_10_method_3_code
def yX7_become : MethodName := ⟨RX7, "become", "(LStampWorksModel$State;)V"⟩
abbrev cX7_load : ByteArray := prog_10_method_4_code
def yX7_load : MethodName := ⟨RX7, "load", "()I"⟩
abbrev cX7_tinOf : ByteArray := prog_10_method_5_code
def yX7_tinOf : MethodName := ⟨RX7, "tinOf", "([III)I"⟩
abbrev cX7_move : ByteArray := prog_10_method_6_code
def yX7_move : MethodName := ⟨RX7, "move", "([II[III)V"⟩
abbrev cX7_dropLot : ByteArray := prog_10_method_7_code
def yX7_dropLot : MethodName := ⟨RX7, "dropLot", "()V"⟩
abbrev cX7_addLot : ByteArray := prog_10_method_8_code
def yX7_addLot : MethodName := ⟨RX7, "addLot", "(III)V"⟩
abbrev cX7_oreOf : ByteArray := prog_10_method_9_code
def yX7_oreOf : MethodName := ⟨RX7, "oreOf", "(II)I"⟩
abbrev cX7_inBuddle : ByteArray := prog_10_method_10_code
def yX7_inBuddle : MethodName := ⟨RX7, "inBuddle", "(I)I"⟩
abbrev cX7_pass : ByteArray := prog_10_method_11_code
def yX7_pass : MethodName := ⟨RX7, "pass", "()I"⟩
abbrev cX7_eat : ByteArray := prog_10_method_12_code
def yX7_eat : MethodName := ⟨RX7, "eat", "(I)V"⟩
abbrev cX7_blow : ByteArray := prog_10_method_13_code
def yX7_blow : MethodName := ⟨RX7, "blow", "(II)V"⟩
abbrev cX7_tinInBuddles : ByteArray := prog_10_method_14_code
def yX7_tinInBuddles : MethodName := ⟨RX7, "tinInBuddles", "()I"⟩
abbrev cX7_inHopper : ByteArray := prog_10_method_15_code
def yX7_inHopper : MethodName := ⟨RX7, "inHopper", "()I"⟩
def RX8 : String := "StampWorksModel"
def TX8 : u_T := fun k => match k with
  | 0 => ("StampWorksModel", "thrown", "I", false)
  | 1 => ("StampWorksModel", "s", "LStampWorksModel$State;", true)
  | 2 => ("StampWorksModel", "ahead", "LStampWorksModel$State;", true)
  | 3 => ("StampWorksModel", "store", "[I", true)
  | 4 => ("StampWorksModel", "tailRock", "I", false)
  | 5 => ("StampWorksModel", "tailTin", "I", false)
  | _ => ("StampWorksModel", "metal", "I", false)
def tyX8 : Nat → FieldType := fun k => match k with
  | 0 => .int
  | 1 => .object "StampWorksModel$State"
  | 2 => .object "StampWorksModel$State"
  | 3 => .array .int
  | 4 => .int
  | 5 => .int
  | _ => .int
abbrev wsX80 : List Cond := u_ws RX8 TX8 7
theorem nmX8 : ∀ a, a < 7 → ∀ b, b < 7 → a ≠ b → (TX8 a).2.1 ≠ (TX8 b).2.1 := by decide +kernel
theorem tyX8_ok : ∀ k, k < 7 → parseFieldDescriptor (TX8 k).2.2.1 = some (tyX8 k) := by decide +kernel
abbrev cX8_init : ByteArray := prog_9_method_1_code
def yX8_init : MethodName := ⟨RX8, "<init>", "()V"⟩
abbrev cX8_thrown : ByteArray := prog_9_method_2_code
def yX8_thrown : MethodName := ⟨RX8, "thrown", "()I"⟩
abbrev cX8_no : ByteArray := prog_9_method_3_code
def yX8_no : MethodName := ⟨RX8, "no", "(I)I"⟩
abbrev cX8_isIn : ByteArray := prog_9_method_4_code
def yX8_isIn : MethodName := ⟨RX8, "isIn", "(III)Z"⟩
abbrev cX8_setInflow : ByteArray := prog_9_method_5_code
def yX8_setInflow : MethodName := ⟨RX8, "setInflow", "(II)I"⟩
abbrev cX8_setSluice : ByteArray := prog_9_method_6_code
def yX8_setSluice : MethodName := ⟨RX8, "setSluice", "(I)I"⟩
abbrev cX8_isBox : ByteArray := prog_9_method_7_code
def yX8_isBox : MethodName := ⟨RX8, "isBox", "(I)Z"⟩
abbrev cX8_addBox : ByteArray := prog_9_method_8_code
def yX8_addBox : MethodName := ⟨RX8, "addBox", "()I"⟩
abbrev cX8_hang : ByteArray := prog_9_method_9_code
def yX8_hang : MethodName := ⟨RX8, "hang", "(III)I"⟩
abbrev cX8_shoe : ByteArray := prog_9_method_10_code
def yX8_shoe : MethodName := ⟨RX8, "shoe", "(II)I"⟩
abbrev cX8_setBox : ByteArray := prog_9_method_11_code
def yX8_setBox : MethodName := ⟨RX8, "setBox", "(III)I"⟩
abbrev cX8_boxTold : ByteArray := prog_9_method_12_code
def yX8_boxTold : MethodName := ⟨RX8, "boxTold", "(II)I"⟩
abbrev cX8_box : ByteArray := prog_9_method_13_code
def yX8_box : MethodName := ⟨RX8, "box", "(II)I"⟩
abbrev cX8_bring : ByteArray := prog_9_method_14_code
def yX8_bring : MethodName := ⟨RX8, "bring", "(III)I"⟩
abbrev cX8_lot : ByteArray := prog_9_method_15_code
def yX8_lot : MethodName := ⟨RX8, "lot", "(II)I"⟩
abbrev cX8_run : ByteArray := prog_9_method_16_code
def yX8_run : MethodName := ⟨RX8, "run", "(LStampWorksModel$State;I)I"⟩
abbrev cX8_run_ : ByteArray := prog_9_method_17_code
def yX8_run_ : MethodName := ⟨RX8, "run", "(I)I"⟩
abbrev cX8_tinInBoxes : ByteArray := prog_9_method_18_code
def yX8_tinInBoxes : MethodName := ⟨RX8, "tinInBoxes", "()I"⟩
abbrev cX8_counted : ByteArray := prog_9_method_19_code
def yX8_counted : MethodName := ⟨RX8, "counted", "(I)I"⟩
abbrev cX8_count : ByteArray := prog_9_method_20_code
def yX8_count : MethodName := ⟨RX8, "count", "(I)I"⟩
abbrev cX8_grade : ByteArray := prog_9_method_21_code
def yX8_grade : MethodName := ⟨RX8, "grade", "(JJ)I"⟩
abbrev cX8_buddleTold : ByteArray := prog_9_method_22_code
def yX8_buddleTold : MethodName := ⟨RX8, "buddleTold", "(II)I"⟩
abbrev cX8_buddle : ByteArray := prog_9_method_23_code
def yX8_buddle : MethodName := ⟨RX8, "buddle", "(II)I"⟩
abbrev cX8_headTin : ByteArray := prog_9_method_24_code
def yX8_headTin : MethodName := ⟨RX8, "headTin", "(II)I"⟩
abbrev cX8_headRock : ByteArray := prog_9_method_25_code
def yX8_headRock : MethodName := ⟨RX8, "headRock", "(II)I"⟩
abbrev cX8_wash : ByteArray := prog_9_method_26_code
def yX8_wash : MethodName := ⟨RX8, "wash", "(II)I"⟩
abbrev cX8_again : ByteArray := prog_9_method_27_code
def yX8_again : MethodName := ⟨RX8, "again", "(I)I"⟩
abbrev cX8_smelt : ByteArray := prog_9_method_28_code
def yX8_smelt : MethodName := ⟨RX8, "smelt", "(I)I"⟩
abbrev cX8_foresee : ByteArray := prog_9_method_29_code
def yX8_foresee : MethodName := ⟨RX8, "foresee", "(II)I"⟩
abbrev cX8_advise : ByteArray := prog_9_method_30_code
def yX8_advise : MethodName := ⟨RX8, "advise", "(I)I"⟩
abbrev cX8_bestWater : ByteArray := prog_9_method_31_code
def yX8_bestWater : MethodName := ⟨RX8, "bestWater", "(II)I"⟩
abbrev cX8_share : ByteArray := prog_9_method_32_code
def yX8_share : MethodName := ⟨RX8, "share", "()D"⟩
abbrev cX8_digest : ByteArray := prog_9_method_33_code
def yX8_digest : MethodName := ⟨RX8, "digest", "()J"⟩
def RJ9 : String := "java/lang/Math"
def TJ9 : u_T := fun k => match k with
  | _ => ("", "", "", false)
def tyJ9 : Nat → FieldType := fun k => match k with
  | _ => .int
abbrev wsJ90 : List Cond := u_ws RJ9 TJ9 0
theorem nmJ9 : ∀ a, a < 0 → ∀ b, b < 0 → a ≠ b → (TJ9 a).2.1 ≠ (TJ9 b).2.1 := by decide +kernel
theorem tyJ9_ok : ∀ k, k < 0 → parseFieldDescriptor (TJ9 k).2.2.1 = some (tyJ9 k) := by decide +kernel
abbrev cJ9_floorMod_7cf53 : ByteArray := prog_15_method_50_code
def yJ9_floorMod_7cf53 : MethodName := ⟨RJ9, "floorMod", "(II)I"⟩
abbrev cJ9_max_7cf53 : ByteArray := prog_15_method_65_code
def yJ9_max_7cf53 : MethodName := ⟨RJ9, "max", "(II)I"⟩
abbrev cJ9_min_7cf53 : ByteArray := prog_15_method_69_code
def yJ9_min_7cf53 : MethodName := ⟨RJ9, "min", "(II)I"⟩
def RJ0 : String := "java/lang/String"
def TJ0 : u_T := fun k => match k with
  | _ => ("", "", "", false)
def tyJ0 : Nat → FieldType := fun k => match k with
  | _ => .int
abbrev wsJ00 : List Cond := u_ws RJ0 TJ0 0
theorem nmJ0 : ∀ a, a < 0 → ∀ b, b < 0 → a ≠ b → (TJ0 a).2.1 ≠ (TJ0 b).2.1 := by decide +kernel
theorem tyJ0_ok : ∀ k, k < 0 → parseFieldDescriptor (TJ0 k).2.2.1 = some (tyJ0 k) := by decide +kernel
def RJ10 : String := "java/lang/System"
def TJ10 : u_T := fun k => match k with
  | _ => ("", "", "", false)
def tyJ10 : Nat → FieldType := fun k => match k with
  | _ => .int
abbrev wsJ100 : List Cond := u_ws RJ10 TJ10 0
theorem nmJ10 : ∀ a, a < 0 → ∀ b, b < 0 → a ≠ b → (TJ10 a).2.1 ≠ (TJ10 b).2.1 := by decide +kernel
theorem tyJ10_ok : ∀ k, k < 0 → parseFieldDescriptor (TJ10 k).2.2.1 = some (tyJ10 k) := by decide +kernel
def RL : String := "StampWorksLaw"
abbrev cL_setInflow : ByteArray := method_3_code
def yL_setInflow : MethodName := ⟨RL, "setInflow", "(LStampWorks;II[J)I"⟩
abbrev cL_setSluice : ByteArray := method_4_code
def yL_setSluice : MethodName := ⟨RL, "setSluice", "(LStampWorks;I[J)I"⟩
abbrev cL_addBox : ByteArray := method_5_code
def yL_addBox : MethodName := ⟨RL, "addBox", "(LStampWorks;[J)I"⟩
abbrev cL_hang : ByteArray := method_6_code
def yL_hang : MethodName := ⟨RL, "hang", "(LStampWorks;III[J)I"⟩
abbrev cL_shoe : ByteArray := method_7_code
def yL_shoe : MethodName := ⟨RL, "shoe", "(LStampWorks;II[J)I"⟩
abbrev cL_setBox : ByteArray := method_8_code
def yL_setBox : MethodName := ⟨RL, "setBox", "(LStampWorks;III[J)I"⟩
abbrev cL_box : ByteArray := method_9_code
def yL_box : MethodName := ⟨RL, "box", "(LStampWorks;II[J)I"⟩
abbrev cL_bring : ByteArray := method_10_code
def yL_bring : MethodName := ⟨RL, "bring", "(LStampWorks;III[J)I"⟩
abbrev cL_lot : ByteArray := method_11_code
def yL_lot : MethodName := ⟨RL, "lot", "(LStampWorks;II[J)I"⟩
abbrev cL_run : ByteArray := method_12_code
def yL_run : MethodName := ⟨RL, "run", "(LStampWorks;I[J)I"⟩
abbrev cL_count : ByteArray := method_13_code
def yL_count : MethodName := ⟨RL, "count", "(LStampWorks;I[J)I"⟩
abbrev cL_buddle : ByteArray := method_14_code
def yL_buddle : MethodName := ⟨RL, "buddle", "(LStampWorks;II[J)I"⟩
abbrev cL_wash : ByteArray := method_15_code
def yL_wash : MethodName := ⟨RL, "wash", "(LStampWorks;II[J)I"⟩
abbrev cL_again : ByteArray := method_16_code
def yL_again : MethodName := ⟨RL, "again", "(LStampWorks;I[J)I"⟩
abbrev cL_smelt : ByteArray := method_17_code
def yL_smelt : MethodName := ⟨RL, "smelt", "(LStampWorks;I[J)I"⟩
abbrev cL_foresee : ByteArray := method_18_code
def yL_foresee : MethodName := ⟨RL, "foresee", "(LStampWorks;II[J)I"⟩
abbrev cL_advise : ByteArray := method_19_code
def yL_advise : MethodName := ⟨RL, "advise", "(LStampWorks;I[J)I"⟩
abbrev cL_bestWater : ByteArray := method_20_code
def yL_bestWater : MethodName := ⟨RL, "bestWater", "(LStampWorks;II[J)I"⟩
abbrev cL_law : ByteArray := code
def yL_law : MethodName := ⟨RL, "law", "([I)Z"⟩
def wsL_law0_r1 : List Cond := [Cond.classLink RL 8 RX6, Cond.instantiable RX6 2, Cond.initialized RX6, Cond.classLink RL 74 RX8, Cond.instantiable RX8 7, Cond.initialized RX8, Cond.arrayClass .long, Cond.methodLink RL 73 yX6_init, Cond.instanceMethod yX6_init, Cond.code yX6_init cX6_init 1 none, Cond.methodLink RX6 1 objectInit, Cond.instanceMethod objectInit, Cond.code objectInit ⟨#[0xb1]⟩ 1 none, Cond.classLink RX6 7 RX5, Cond.instantiable RX5 12, Cond.initialized RX5, Cond.fieldLink RX6 10 "StampWorks" "works" "LStampWorks$Works;", Cond.fieldLink RX6 16 "StampWorks" "trial" "LStampWorks$Works;", Cond.methodLink RX6 9 yX5_init, Cond.instanceMethod yX5_init, Cond.code yX5_init cX5_init 2 none, Cond.methodLink RX5 3 objectInit, Cond.arrayClass .int, Cond.fieldLink RX5 9 "StampWorks$Works" "inflow" "[I"]
def wsL_law0_r2 : List Cond := [Cond.classLink RX5 15 RX0, Cond.fieldLink RX5 17 "StampWorks$Works" "boxes" "[LStampWorks$Box;", Cond.instantiable RX0 9, Cond.initialized RX0, Cond.classLink RX5 22 RX1, Cond.instantiable RX1 3, Cond.initialized RX1, Cond.fieldLink RX5 25 "StampWorks$Works" "hopper" "LStampWorks$Hopper;", Cond.classLink RX5 29 RX3, Cond.fieldLink RX5 31 "StampWorks$Works" "buddles" "[LStampWorks$Ore;", Cond.instantiable RX3 2, Cond.initialized RX3, Cond.fieldLink RX5 36 "StampWorks$Works" "store" "LStampWorks$Ore;", Cond.fieldLink RX5 40 "StampWorks$Works" "tails" "LStampWorks$Ore;", Cond.fieldLink RX5 43 "StampWorks$Works" "pond" "I", Cond.fieldLink RX5 47 "StampWorks$Works" "sluice" "I", Cond.methodLink RX5 21 yX0_init, Cond.instanceMethod yX0_init, Cond.code yX0_init cX0_init 2 none, Cond.methodLink RX0 3 objectInit, Cond.classLink RX0 9 RX4, Cond.fieldLink RX0 11 "StampWorks$Box" "stamps" "[LStampWorks$Stamp;", Cond.instantiable RX4 3, Cond.initialized RX4]
def wsL_law0_r3 : List Cond := [Cond.classLink RX0 18 RX3, Cond.fieldLink RX0 21 "StampWorks$Box" "lumps" "LStampWorks$Ore;", Cond.fieldLink RX0 25 "StampWorks$Box" "grit" "LStampWorks$Ore;", Cond.fieldLink RX0 28 "StampWorks$Box" "sand" "LStampWorks$Ore;", Cond.fieldLink RX0 31 "StampWorks$Box" "feed" "I", Cond.fieldLink RX0 35 "StampWorks$Box" "hardness" "I", Cond.instanceMethod yX4_init, Cond.code yX4_init cX4_init 1 none, Cond.methodLink RX4 3 objectInit, Cond.instanceMethod yX3_init, Cond.code yX3_init cX3_init 1 none, Cond.methodLink RX3 1 objectInit, Cond.methodLink RX5 24 yX1_init, Cond.instanceMethod yX1_init, Cond.code yX1_init cX1_init 2 none, Cond.methodLink RX1 3 objectInit, Cond.classLink RX1 9 RX2, Cond.fieldLink RX1 11 "StampWorks$Hopper" "ring" "[LStampWorks$Lot;", Cond.instantiable RX2 2, Cond.initialized RX2, Cond.methodLink RX1 17 yX2_init, Cond.instanceMethod yX2_init, Cond.code yX2_init cX2_init 1 none, Cond.methodLink RX2 1 objectInit]
def wsL_law0_r4 : List Cond := [Cond.classLink RX2 7 RX3, Cond.fieldLink RX2 10 "StampWorks$Lot" "ore" "LStampWorks$Ore;", Cond.methodLink RL 76 yX8_init, Cond.instanceMethod yX8_init, Cond.code yX8_init cX8_init 1 none, Cond.methodLink RX8 1 objectInit, Cond.classLink RX8 7 RX7, Cond.instantiable RX7 18, Cond.initialized RX7, Cond.fieldLink RX8 10 "StampWorksModel" "s" "LStampWorksModel$State;", Cond.fieldLink RX8 16 "StampWorksModel" "ahead" "LStampWorksModel$State;", Cond.fieldLink RX8 19 "StampWorksModel" "store" "[I", Cond.methodLink RX8 9 yX7_init, Cond.instanceMethod yX7_init, Cond.code yX7_init cX7_init 2 none, Cond.methodLink RX7 3 objectInit, Cond.fieldLink RX7 9 "StampWorksModel$State" "pond" "I", Cond.fieldLink RX7 15 "StampWorksModel$State" "sluice" "I", Cond.fieldLink RX7 18 "StampWorksModel$State" "inflow" "[I", Cond.fieldLink RX7 22 "StampWorksModel$State" "stamps" "[I", Cond.fieldLink RX7 25 "StampWorksModel$State" "weight" "[I", Cond.fieldLink RX7 28 "StampWorksModel$State" "cams" "[I", Cond.fieldLink RX7 31 "StampWorksModel$State" "wear" "[I", Cond.fieldLink RX7 34 "StampWorksModel$State" "feed" "[I"]
def wsL_law0_r5 : List Cond := [Cond.fieldLink RX7 37 "StampWorksModel$State" "goes" "[I", Cond.fieldLink RX7 40 "StampWorksModel$State" "hardness" "[I", Cond.fieldLink RX7 43 "StampWorksModel$State" "force" "[I", Cond.fieldLink RX7 46 "StampWorksModel$State" "ore" "[I", Cond.fieldLink RX7 49 "StampWorksModel$State" "lot" "[I", Cond.fieldLink RX7 52 "StampWorksModel$State" "buddle" "[I", Cond.methodLink RL 77 yL_setInflow, Cond.static yL_setInflow, Cond.initialized RL, Cond.codeWith yL_setInflow cL_setInflow 5 (some .int) [(0, 10, 13, 13), (0, 10, 17, 15)], Cond.classLink RL 13 "java/lang/IndexOutOfBoundsException", Cond.classLink RL 15 "java/lang/IllegalArgumentException", Cond.methodLink RL 7 yX6_setInflow, Cond.instanceMethod yX6_setInflow, Cond.selects RX6 yX6_setInflow yX6_setInflow, Cond.code yX6_setInflow cX6_setInflow 4 (some .int), Cond.classLink RX6 19 "java/lang/IndexOutOfBoundsException", Cond.initialized "java/lang/IndexOutOfBoundsException", Cond.classLink RX6 26 "java/lang/IllegalArgumentException", Cond.initialized "java/lang/IllegalArgumentException", Cond.fieldLink RX6 31 "StampWorks$Works" "inflow" "[I", Cond.methodLink RL 82 yX8_setInflow, Cond.instanceMethod yX8_setInflow, Cond.selects RX8 yX8_setInflow yX8_setInflow]
def wsL_law0_r6 : List Cond := [Cond.code yX8_setInflow cX8_setInflow 4 (some .int), Cond.fieldLink RX8 23 "StampWorksModel" "thrown" "I", Cond.methodLink RX8 27 yX8_isIn, Cond.static yX8_isIn, Cond.code yX8_isIn cX8_isIn 3 (some .boolean), Cond.methodLink RX8 31 yX8_no, Cond.instanceMethod yX8_no, Cond.selects RX8 yX8_no yX8_no, Cond.code yX8_no cX8_no 2 (some .int), Cond.methodLink RL 83 yX8_thrown, Cond.instanceMethod yX8_thrown, Cond.selects RX8 yX8_thrown yX8_thrown, Cond.code yX8_thrown cX8_thrown 1 (some .int), Cond.methodLink RL 86 yL_setSluice, Cond.static yL_setSluice, Cond.codeWith yL_setSluice cL_setSluice 4 (some .int) [(0, 9, 12, 15)], Cond.methodLink RL 17 yX6_setSluice, Cond.instanceMethod yX6_setSluice, Cond.selects RX6 yX6_setSluice yX6_setSluice, Cond.code yX6_setSluice cX6_setSluice 3 (some .int), Cond.fieldLink RX6 37 "StampWorks$Works" "sluice" "I", Cond.methodLink RL 89 yX8_setSluice, Cond.instanceMethod yX8_setSluice, Cond.selects RX8 yX8_setSluice yX8_setSluice]
def wsL_law0_r7 : List Cond := [Cond.code yX8_setSluice cX8_setSluice 3 (some .int), Cond.methodLink RL 90 yL_addBox, Cond.static yL_addBox, Cond.codeWith yL_addBox cL_addBox 3 (some .int) [(0, 8, 11, 25)], Cond.classLink RL 25 "java/lang/IllegalStateException", Cond.methodLink RL 21 yX6_addBox, Cond.instanceMethod yX6_addBox, Cond.selects RX6 yX6_addBox yX6_addBox, Cond.code yX6_addBox cX6_addBox 1 (some .int), Cond.classLink RX6 44 "java/lang/IllegalStateException", Cond.initialized "java/lang/IllegalStateException", Cond.fieldLink RX6 41 "StampWorks$Works" "boxCount" "I", Cond.methodLink RL 93 yX8_addBox, Cond.instanceMethod yX8_addBox, Cond.selects RX8 yX8_addBox yX8_addBox, Cond.code yX8_addBox cX8_addBox 1 (some .int), Cond.methodLink RL 94 yL_hang, Cond.static yL_hang, Cond.codeWith yL_hang cL_hang 6 (some .int) [(0, 12, 15, 13), (0, 12, 19, 15), (0, 12, 23, 25)], Cond.methodLink RL 27 yX6_hang, Cond.instanceMethod yX6_hang, Cond.selects RX6 yX6_hang yX6_hang, Cond.code yX6_hang cX6_hang 5 (some .int), Cond.fieldLink RX6 57 "StampWorks$Box" "stampCount" "I"]
def wsL_law0_r8 : List Cond := [Cond.methodLink RX6 49 yX6_boxNumbered, Cond.instanceMethod yX6_boxNumbered, Cond.selects RX6 yX6_boxNumbered yX6_boxNumbered, Cond.code yX6_boxNumbered cX6_boxNumbered 2 (some (.object "StampWorks$Box")), Cond.fieldLink RX6 230 "StampWorks$Works" "boxes" "[LStampWorks$Box;", Cond.methodLink RX6 64 yX0_addStamp, Cond.instanceMethod yX0_addStamp, Cond.selects RX0 yX0_addStamp yX0_addStamp, Cond.code yX0_addStamp cX0_addStamp 4 none, Cond.fieldLink RX0 38 "StampWorks$Box" "stampCount" "I", Cond.fieldLink RX0 41 "StampWorks$Stamp" "weight" "I", Cond.fieldLink RX0 44 "StampWorks$Stamp" "cams" "I", Cond.methodLink RL 97 yX8_hang, Cond.instanceMethod yX8_hang, Cond.selects RX8 yX8_hang yX8_hang, Cond.code yX8_hang cX8_hang 5 (some .int), Cond.methodLink RX8 50 yX8_isBox, Cond.instanceMethod yX8_isBox, Cond.selects RX8 yX8_isBox yX8_isBox, Cond.code yX8_isBox cX8_isBox 2 (some .boolean), Cond.methodLink RL 98 yL_shoe, Cond.static yL_shoe, Cond.codeWith yL_shoe cL_shoe 5 (some .int) [(0, 10, 13, 13)], Cond.methodLink RL 31 yX6_shoe]
def wsL_law0_r9 : List Cond := [Cond.instanceMethod yX6_shoe, Cond.selects RX6 yX6_shoe yX6_shoe, Cond.code yX6_shoe cX6_shoe 5 (some .int), Cond.fieldLink RX6 70 "StampWorks$Box" "stamps" "[LStampWorks$Stamp;", Cond.fieldLink RX6 74 "StampWorks$Stamp" "wear" "I", Cond.methodLink RL 100 yX8_shoe, Cond.instanceMethod yX8_shoe, Cond.selects RX8 yX8_shoe yX8_shoe, Cond.code yX8_shoe cX8_shoe 4 (some .int), Cond.methodLink RL 101 yL_setBox, Cond.static yL_setBox, Cond.codeWith yL_setBox cL_setBox 6 (some .int) [(0, 12, 15, 13), (0, 12, 19, 15)], Cond.methodLink RL 34 yX6_setBox, Cond.instanceMethod yX6_setBox, Cond.selects RX6 yX6_setBox yX6_setBox, Cond.code yX6_setBox cX6_setBox 6 (some .int), Cond.fieldLink RX6 83 "StampWorks$Box" "feed" "I", Cond.fieldLink RX6 86 "StampWorks$Box" "buddle" "I", Cond.methodLink RL 103 yX8_setBox, Cond.instanceMethod yX8_setBox, Cond.selects RX8 yX8_setBox yX8_setBox, Cond.code yX8_setBox cX8_setBox 5 (some .int), Cond.methodLink RL 104 yL_box, Cond.static yL_box]
def wsL_law0_r10 : List Cond := [Cond.codeWith yL_box cL_box 5 (some .int) [(0, 10, 13, 13)], Cond.methodLink RL 37 yX6_box, Cond.instanceMethod yX6_box, Cond.selects RX6 yX6_box yX6_box, Cond.code yX6_box cX6_box 4 (some .int), Cond.methodLink RX6 91 yX0_tellOfBox, Cond.instanceMethod yX0_tellOfBox, Cond.selects RX0 yX0_tellOfBox yX0_tellOfBox, Cond.code yX0_tellOfBox cX0_tellOfBox 2 (some .int), Cond.fieldLink RX0 47 "StampWorks$Box" "buddle" "I", Cond.fieldLink RX0 50 "StampWorks$Ore" "rock" "I", Cond.fieldLink RX0 53 "StampWorks$Ore" "tin" "I", Cond.fieldLink RX0 60 "StampWorks$Box" "force" "I", Cond.methodLink RX0 56 yX0_wearOfStamps, Cond.instanceMethod yX0_wearOfStamps, Cond.selects RX0 yX0_wearOfStamps yX0_wearOfStamps, Cond.code yX0_wearOfStamps cX0_wearOfStamps 3 (some .int), Cond.fieldLink RX0 63 "StampWorks$Stamp" "wear" "I", Cond.methodLink RL 106 yX8_box, Cond.instanceMethod yX8_box, Cond.selects RX8 yX8_box yX8_box, Cond.code yX8_box cX8_box 3 (some .int), Cond.methodLink RX8 75 yX8_boxTold, Cond.instanceMethod yX8_boxTold]
def wsL_law0_r11 : List Cond := [Cond.selects RX8 yX8_boxTold yX8_boxTold, Cond.code yX8_boxTold cX8_boxTold 5 (some .int), Cond.methodLink RL 107 yL_bring, Cond.static yL_bring, Cond.codeWith yL_bring cL_bring 6 (some .int) [(0, 12, 15, 15), (0, 12, 19, 25)], Cond.methodLink RL 40 yX6_bring, Cond.instanceMethod yX6_bring, Cond.selects RX6 yX6_bring yX6_bring, Cond.code yX6_bring cX6_bring 5 (some .int), Cond.fieldLink RX6 104 "StampWorks$Works" "hopper" "LStampWorks$Hopper;", Cond.fieldLink RX6 114 "StampWorks$Hopper" "count" "I", Cond.methodLink RX6 101 yX6_refuseFullHopper, Cond.instanceMethod yX6_refuseFullHopper, Cond.selects RX6 yX6_refuseFullHopper yX6_refuseFullHopper, Cond.code yX6_refuseFullHopper cX6_refuseFullHopper 1 none, Cond.methodLink RX6 108 yX1_addLot, Cond.instanceMethod yX1_addLot, Cond.selects RX1 yX1_addLot yX1_addLot, Cond.code yX1_addLot cX1_addLot 5 none, Cond.fieldLink RX1 28 "StampWorks$Hopper" "count" "I", Cond.fieldLink RX1 35 "StampWorks$Lot" "ore" "LStampWorks$Ore;", Cond.fieldLink RX1 45 "StampWorks$Lot" "hardness" "I", Cond.methodLink RX1 31 yX1_lotAt, Cond.instanceMethod yX1_lotAt]
def wsL_law0_r12 : List Cond := [Cond.selects RX1 yX1_lotAt yX1_lotAt, Cond.code yX1_lotAt cX1_lotAt 2 (some (.object "StampWorks$Lot")), Cond.fieldLink RX1 18 "StampWorks$Hopper" "first" "I", Cond.methodLink RX1 22 yJ9_floorMod_7cf53, Cond.static yJ9_floorMod_7cf53, Cond.initialized RJ9, Cond.code yJ9_floorMod_7cf53 cJ9_floorMod_7cf53 3 (some .int), Cond.methodLink RX1 39 yX3_become, Cond.instanceMethod yX3_become, Cond.selects RX3 yX3_become yX3_become, Cond.code yX3_become cX3_become 3 none, Cond.fieldLink RX3 7 "StampWorks$Ore" "rock" "I", Cond.fieldLink RX3 13 "StampWorks$Ore" "tin" "I", Cond.methodLink RL 109 yX8_bring, Cond.instanceMethod yX8_bring, Cond.selects RX8 yX8_bring yX8_bring, Cond.code yX8_bring cX8_bring 5 (some .int), Cond.methodLink RX8 82 yX7_addLot, Cond.instanceMethod yX7_addLot, Cond.selects RX7 yX7_addLot yX7_addLot, Cond.code yX7_addLot cX7_addLot 4 none, Cond.fieldLink RX7 67 "StampWorksModel$State" "lots" "I", Cond.methodLink RL 110 yL_lot, Cond.static yL_lot]
def wsL_law0_r13 : List Cond := [Cond.codeWith yL_lot cL_lot 5 (some .int) [(0, 10, 13, 13)], Cond.methodLink RL 43 yX6_lot, Cond.instanceMethod yX6_lot, Cond.selects RX6 yX6_lot yX6_lot, Cond.code yX6_lot cX6_lot 3 (some .int), Cond.methodLink RX6 121 yX1_lotAt, Cond.methodLink RX6 125 yX2_tellOfLot, Cond.instanceMethod yX2_tellOfLot, Cond.selects RX2 yX2_tellOfLot yX2_tellOfLot, Cond.code yX2_tellOfLot cX2_tellOfLot 2 (some .int), Cond.fieldLink RX2 16 "StampWorks$Lot" "hardness" "I", Cond.methodLink RX2 20 yX3_tellOfOre, Cond.instanceMethod yX3_tellOfOre, Cond.selects RX3 yX3_tellOfOre yX3_tellOfOre, Cond.code yX3_tellOfOre cX3_tellOfOre 2 (some .int), Cond.static yX6_gradeOf, Cond.code yX6_gradeOf cX6_gradeOf 2 (some .int), Cond.methodLink RX6 269 yX6_partOf, Cond.static yX6_partOf, Cond.code yX6_partOf cX6_partOf 3 (some .int), Cond.methodLink RL 112 yX8_lot, Cond.instanceMethod yX8_lot, Cond.selects RX8 yX8_lot yX8_lot, Cond.code yX8_lot cX8_lot 3 (some .int)]
def wsL_law0_r14 : List Cond := [Cond.methodLink RL 113 yL_run, Cond.static yL_run, Cond.codeWith yL_run cL_run 4 (some .int) [(0, 9, 12, 15), (0, 9, 15, 25)], Cond.methodLink RL 46 yX6_run, Cond.instanceMethod yX6_run, Cond.selects RX6 yX6_run yX6_run, Cond.code yX6_run cX6_run 2 (some .int), Cond.methodLink RX6 130 yX6_refuseHours, Cond.static yX6_refuseHours, Cond.code yX6_refuseHours cX6_refuseHours 2 none, Cond.methodLink RX6 133 yX6_refuseLateHour, Cond.instanceMethod yX6_refuseLateHour, Cond.selects RX6 yX6_refuseLateHour yX6_refuseLateHour, Cond.code yX6_refuseLateHour cX6_refuseLateHour 2 none, Cond.fieldLink RX6 256 "StampWorks$Works" "hour" "I", Cond.methodLink RX6 137 yX5_passHours, Cond.instanceMethod yX5_passHours, Cond.selects RX5 yX5_passHours yX5_passHours, Cond.code yX5_passHours cX5_passHours 4 (some .int), Cond.methodLink RX5 87 yX5_passHour, Cond.instanceMethod yX5_passHour, Cond.selects RX5 yX5_passHour yX5_passHour, Cond.code yX5_passHour cX5_passHour 4 (some .int), Cond.methodLink RX5 93 Lib.Math.max.name]
def wsL_law0_r15 : List Cond := [Cond.static Lib.Math.max.name, Cond.initialized "java/lang/Math", Cond.code Lib.Math.max.name Lib.Math.max.code 2 (some .int), Cond.fieldLink RX5 53 "StampWorks$Works" "boxCount" "I", Cond.fieldLink RX5 50 "StampWorks$Works" "hour" "I", Cond.methodLink RX5 90 yX5_takeWater, Cond.instanceMethod yX5_takeWater, Cond.selects RX5 yX5_takeWater yX5_takeWater, Cond.code yX5_takeWater cX5_takeWater 3 (some .int), Cond.methodLink RX5 106 Lib.Math.min.name, Cond.static Lib.Math.min.name, Cond.code Lib.Math.min.name Lib.Math.min.code 2 (some .int), Cond.methodLink RX5 103 yJ9_floorMod_7cf53, Cond.methodLink RX5 63 yX5_loadOfWheel, Cond.instanceMethod yX5_loadOfWheel, Cond.selects RX5 yX5_loadOfWheel yX5_loadOfWheel, Cond.code yX5_loadOfWheel cX5_loadOfWheel 3 (some .int), Cond.methodLink RX5 81 yX0_loadOfStamps, Cond.instanceMethod yX0_loadOfStamps, Cond.selects RX0 yX0_loadOfStamps yX0_loadOfStamps, Cond.code yX0_loadOfStamps cX0_loadOfStamps 3 (some .int), Cond.methodLink RX0 66 yX4_loadOfStamp, Cond.instanceMethod yX4_loadOfStamp, Cond.selects RX4 yX4_loadOfStamp yX4_loadOfStamp]
def wsL_law0_r16 : List Cond := [Cond.code yX4_loadOfStamp cX4_loadOfStamp 1 (some .int), Cond.fieldLink RX4 9 "StampWorks$Stamp" "weight" "I", Cond.fieldLink RX4 15 "StampWorks$Stamp" "cams" "I", Cond.methodLink RX5 99 yX5_workBox, Cond.instanceMethod yX5_workBox, Cond.selects RX5 yX5_workBox yX5_workBox, Cond.code yX5_workBox cX5_workBox 4 none, Cond.fieldLink RX5 109 "StampWorks$Box" "lumps" "LStampWorks$Ore;", Cond.fieldLink RX5 112 "StampWorks$Box" "feed" "I", Cond.fieldLink RX5 115 "StampWorks$Box" "hardness" "I", Cond.fieldLink RX5 72 "StampWorks$Works" "slime" "I", Cond.fieldLink RX5 129 "StampWorks$Box" "buddle" "I", Cond.methodLink RX5 118 yX1_feedInto, Cond.instanceMethod yX1_feedInto, Cond.selects RX1 yX1_feedInto yX1_feedInto, Cond.code yX1_feedInto cX1_feedInto 8 (some .int), Cond.methodLink RX1 52 yX3_moveTo, Cond.instanceMethod yX3_moveTo, Cond.selects RX3 yX3_moveTo yX3_moveTo, Cond.code yX3_moveTo cX3_moveTo 5 (some .int), Cond.methodLink RX3 30 Lib.Math.min.name, Cond.methodLink RX3 26 yX3_whole, Cond.instanceMethod yX3_whole, Cond.selects RX3 yX3_whole yX3_whole]
def wsL_law0_r17 : List Cond := [Cond.code yX3_whole cX3_whole 1 (some .int), Cond.methodLink RX3 39 yX3_put, Cond.instanceMethod yX3_put, Cond.selects RX3 yX3_put yX3_put, Cond.code yX3_put cX3_put 3 none, Cond.methodLink RX1 48 yX3_whole, Cond.methodLink RX1 56 yX1_dropFirst, Cond.instanceMethod yX1_dropFirst, Cond.selects RX1 yX1_dropFirst yX1_dropFirst, Cond.code yX1_dropFirst cX1_dropFirst 1 none, Cond.methodLink RX5 122 yX0_blow, Cond.instanceMethod yX0_blow, Cond.selects RX0 yX0_blow yX0_blow, Cond.code yX0_blow cX0_blow 3 none, Cond.methodLink RX0 76 Lib.Math.max.name, Cond.methodLink RX0 73 yX0_forceOfStamps, Cond.instanceMethod yX0_forceOfStamps, Cond.selects RX0 yX0_forceOfStamps yX0_forceOfStamps, Cond.code yX0_forceOfStamps cX0_forceOfStamps 4 (some .int), Cond.methodLink RX0 69 yX4_forceOfStamp, Cond.instanceMethod yX4_forceOfStamp, Cond.selects RX4 yX4_forceOfStamp yX4_forceOfStamp, Cond.code yX4_forceOfStamp cX4_forceOfStamp 2 (some .int), Cond.fieldLink RX4 18 "StampWorks$Stamp" "wear" "I"]
def wsL_law0_r18 : List Cond := [Cond.methodLink RX0 82 yX3_moveTo, Cond.methodLink RX5 126 yX0_loseSlime, Cond.instanceMethod yX0_loseSlime, Cond.selects RX0 yX0_loseSlime yX0_loseSlime, Cond.code yX0_loseSlime cX0_loseSlime 2 (some .int), Cond.methodLink RX0 86 Lib.Math.min.name, Cond.methodLink RX5 132 yX0_grate, Cond.instanceMethod yX0_grate, Cond.selects RX0 yX0_grate yX0_grate, Cond.code yX0_grate cX0_grate 3 none, Cond.methodLink RX0 89 yX3_whole, Cond.methodLink RX5 136 yX0_wearStamps, Cond.instanceMethod yX0_wearStamps, Cond.selects RX0 yX0_wearStamps yX0_wearStamps, Cond.code yX0_wearStamps cX0_wearStamps 3 none, Cond.methodLink RX0 92 yX4_wearBy, Cond.instanceMethod yX4_wearBy, Cond.selects RX4 yX4_wearBy yX4_wearBy, Cond.code yX4_wearBy cX4_wearBy 2 none, Cond.methodLink RX4 21 Lib.Math.min.name, Cond.methodLink RL 115 yX8_run_, Cond.instanceMethod yX8_run_, Cond.selects RX8 yX8_run_ yX8_run_, Cond.code yX8_run_ cX8_run_ 2 (some .int)]
def wsL_law0_r19 : List Cond := [Cond.methodLink RX8 96 yX8_run, Cond.static yX8_run, Cond.code yX8_run cX8_run 4 (some .int), Cond.methodLink RX8 89 yX7_pass, Cond.instanceMethod yX7_pass, Cond.selects RX7 yX7_pass yX7_pass, Cond.code yX7_pass cX7_pass 8 (some .int), Cond.fieldLink RX7 61 "StampWorksModel$State" "hour" "I", Cond.methodLink RX7 81 Lib.Math.min.name, Cond.fieldLink RX7 64 "StampWorksModel$State" "boxes" "I", Cond.methodLink RX7 99 Lib.Math.max.name, Cond.fieldLink RX7 70 "StampWorksModel$State" "slime" "I", Cond.methodLink RX7 87 yX7_load, Cond.instanceMethod yX7_load, Cond.selects RX7 yX7_load yX7_load, Cond.code yX7_load cX7_load 4 (some .int), Cond.methodLink RX7 91 yX7_eat, Cond.instanceMethod yX7_eat, Cond.selects RX7 yX7_eat yX7_eat, Cond.code yX7_eat cX7_eat 4 none, Cond.methodLink RX7 109 yX7_move, Cond.static yX7_move, Cond.code yX7_move cX7_move 6 none, Cond.methodLink RX7 77 yX7_tinOf]
def wsL_law0_r20 : List Cond := [Cond.static yX7_tinOf, Cond.code yX7_tinOf cX7_tinOf 5 (some .int), Cond.methodLink RX7 113 yX7_dropLot, Cond.instanceMethod yX7_dropLot, Cond.selects RX7 yX7_dropLot yX7_dropLot, Cond.code yX7_dropLot cX7_dropLot 2 none, Cond.methodLink RX7 95 yX7_blow, Cond.instanceMethod yX7_blow, Cond.selects RX7 yX7_blow yX7_blow, Cond.code yX7_blow cX7_blow 4 none, Cond.methodLink RX7 102 yX7_oreOf, Cond.instanceMethod yX7_oreOf, Cond.selects RX7 yX7_oreOf yX7_oreOf, Cond.code yX7_oreOf cX7_oreOf 3 (some .int), Cond.methodLink RX7 105 yX7_inBuddle, Cond.instanceMethod yX7_inBuddle, Cond.selects RX7 yX7_inBuddle yX7_inBuddle, Cond.code yX7_inBuddle cX7_inBuddle 2 (some .int), Cond.methodLink RL 116 yL_count, Cond.static yL_count, Cond.codeWith yL_count cL_count 4 (some .int) [(0, 9, 12, 13)], Cond.methodLink RL 49 yX6_count, Cond.instanceMethod yX6_count, Cond.selects RX6 yX6_count yX6_count]
def wsL_law0_r21 : List Cond := [Cond.code yX6_count cX6_count 2 (some .int), Cond.methodLink RX6 142 yX5_tellOfWorks, Cond.instanceMethod yX5_tellOfWorks, Cond.selects RX5 yX5_tellOfWorks yX5_tellOfWorks, Cond.code yX5_tellOfWorks cX5_tellOfWorks 2 (some .int), Cond.fieldLink RX5 56 "StampWorks$Hopper" "count" "I", Cond.fieldLink RX5 66 "StampWorks$Ore" "rock" "I", Cond.fieldLink RX5 69 "StampWorks$Ore" "tin" "I", Cond.fieldLink RX5 75 "StampWorks$Works" "metal" "I", Cond.methodLink RX5 59 yX1_oreOfLots, Cond.instanceMethod yX1_oreOfLots, Cond.selects RX1 yX1_oreOfLots yX1_oreOfLots, Cond.code yX1_oreOfLots cX1_oreOfLots 3 (some .int), Cond.methodLink RX5 78 yX5_tinOfBoxes, Cond.instanceMethod yX5_tinOfBoxes, Cond.selects RX5 yX5_tinOfBoxes yX5_tinOfBoxes, Cond.code yX5_tinOfBoxes cX5_tinOfBoxes 3 (some .int), Cond.methodLink RX5 84 yX0_tinOfSizes, Cond.instanceMethod yX0_tinOfSizes, Cond.selects RX0 yX0_tinOfSizes yX0_tinOfSizes, Cond.code yX0_tinOfSizes cX0_tinOfSizes 1 (some .int), Cond.methodLink RL 118 yX8_count, Cond.instanceMethod yX8_count, Cond.selects RX8 yX8_count yX8_count]
def wsL_law0_r22 : List Cond := [Cond.code yX8_count cX8_count 2 (some .int), Cond.methodLink RX8 124 yX8_counted, Cond.instanceMethod yX8_counted, Cond.selects RX8 yX8_counted yX8_counted, Cond.code yX8_counted cX8_counted 3 (some .int), Cond.fieldLink RX8 112 "StampWorksModel" "tailTin" "I", Cond.fieldLink RX8 115 "StampWorksModel" "tailRock" "I", Cond.fieldLink RX8 118 "StampWorksModel" "metal" "I", Cond.methodLink RX8 103 yX7_inHopper, Cond.instanceMethod yX7_inHopper, Cond.selects RX7 yX7_inHopper yX7_inHopper, Cond.code yX7_inHopper cX7_inHopper 3 (some .int), Cond.methodLink RX8 106 yX7_load, Cond.methodLink RX8 121 yX8_tinInBoxes, Cond.instanceMethod yX8_tinInBoxes, Cond.selects RX8 yX8_tinInBoxes yX8_tinInBoxes, Cond.code yX8_tinInBoxes cX8_tinInBoxes 3 (some .int), Cond.methodLink RL 119 yL_buddle, Cond.static yL_buddle, Cond.codeWith yL_buddle cL_buddle 5 (some .int) [(0, 10, 13, 13)], Cond.methodLink RL 52 yX6_buddle, Cond.instanceMethod yX6_buddle, Cond.selects RX6 yX6_buddle yX6_buddle, Cond.code yX6_buddle cX6_buddle 4 (some .int)]
def wsL_law0_r23 : List Cond := [Cond.methodLink RX6 145 yX6_buddleNumbered, Cond.instanceMethod yX6_buddleNumbered, Cond.selects RX6 yX6_buddleNumbered yX6_buddleNumbered, Cond.code yX6_buddleNumbered cX6_buddleNumbered 2 (some (.object "StampWorks$Ore")), Cond.fieldLink RX6 242 "StampWorks$Works" "buddles" "[LStampWorks$Ore;", Cond.methodLink RX6 151 yX3_tellOfOre, Cond.methodLink RL 121 yX8_buddle, Cond.instanceMethod yX8_buddle, Cond.selects RX8 yX8_buddle yX8_buddle, Cond.code yX8_buddle cX8_buddle 3 (some .int), Cond.methodLink RX8 136 yX8_buddleTold, Cond.instanceMethod yX8_buddleTold, Cond.selects RX8 yX8_buddleTold yX8_buddleTold, Cond.code yX8_buddleTold cX8_buddleTold 3 (some .int), Cond.methodLink RX8 132 yX8_grade, Cond.static yX8_grade, Cond.code yX8_grade cX8_grade 4 (some .int), Cond.constantLong RX8 127 (1000), Cond.methodLink RL 122 yL_wash, Cond.static yL_wash, Cond.codeWith yL_wash cL_wash 5 (some .int) [(0, 10, 13, 13), (0, 10, 17, 15), (0, 10, 21, 25)], Cond.methodLink RL 55 yX6_wash, Cond.instanceMethod yX6_wash, Cond.selects RX6 yX6_wash yX6_wash]
def wsL_law0_r24 : List Cond := [Cond.code yX6_wash cX6_wash 4 (some .int), Cond.methodLink RX6 158 yX3_whole, Cond.methodLink RX6 164 yX5_partByWater, Cond.instanceMethod yX5_partByWater, Cond.selects RX5 yX5_partByWater yX5_partByWater, Cond.code yX5_partByWater cX5_partByWater 9 (some .int), Cond.static yX6_rockOfHead, Cond.code yX6_rockOfHead cX6_rockOfHead 2 (some .int), Cond.static yX6_tinOfHead, Cond.code yX6_tinOfHead cX6_tinOfHead 2 (some .int), Cond.methodLink RX5 145 yX3_put, Cond.methodLink RX5 149 yX1_addLot, Cond.methodLink RX5 153 yX3_become, Cond.methodLink RL 124 yX8_wash, Cond.instanceMethod yX8_wash, Cond.selects RX8 yX8_wash yX8_wash, Cond.code yX8_wash cX8_wash 7 (some .int), Cond.methodLink RX8 139 yX7_inBuddle, Cond.methodLink RX8 142 yX8_headTin, Cond.instanceMethod yX8_headTin, Cond.selects RX8 yX8_headTin yX8_headTin, Cond.code yX8_headTin cX8_headTin 3 (some .int), Cond.methodLink RX8 145 yX8_headRock, Cond.instanceMethod yX8_headRock]
def wsL_law0_r25 : List Cond := [Cond.selects RX8 yX8_headRock yX8_headRock, Cond.code yX8_headRock cX8_headRock 3 (some .int), Cond.methodLink RL 125 yL_again, Cond.static yL_again, Cond.codeWith yL_again cL_again 4 (some .int) [(0, 9, 12, 13)], Cond.methodLink RL 58 yX6_again, Cond.instanceMethod yX6_again, Cond.selects RX6 yX6_again yX6_again, Cond.code yX6_again cX6_again 3 (some .int), Cond.fieldLink RX6 168 "StampWorks$Works" "store" "LStampWorks$Ore;", Cond.methodLink RX6 172 yX3_moveTo, Cond.methodLink RL 127 yX8_again, Cond.instanceMethod yX8_again, Cond.selects RX8 yX8_again yX8_again, Cond.code yX8_again cX8_again 3 (some .int), Cond.methodLink RX8 148 Lib.Math.min.name, Cond.methodLink RX8 153 yX7_move, Cond.methodLink RL 128 yL_smelt, Cond.static yL_smelt, Cond.codeWith yL_smelt cL_smelt 4 (some .int) [(0, 9, 12, 15), (0, 9, 15, 25)], Cond.methodLink RL 61 yX6_smelt, Cond.instanceMethod yX6_smelt, Cond.selects RX6 yX6_smelt yX6_smelt, Cond.code yX6_smelt cX6_smelt 2 (some .int)]
def wsL_law0_r26 : List Cond := [Cond.methodLink RX6 179 yX5_smeltFromStore, Cond.instanceMethod yX5_smeltFromStore, Cond.selects RX5 yX5_smeltFromStore yX5_smeltFromStore, Cond.code yX5_smeltFromStore cX5_smeltFromStore 5 (some .int), Cond.methodLink RX5 156 yX3_whole, Cond.methodLink RL 130 yX8_smelt, Cond.instanceMethod yX8_smelt, Cond.selects RX8 yX8_smelt yX8_smelt, Cond.code yX8_smelt cX8_smelt 4 (some .int), Cond.methodLink RL 131 yL_foresee, Cond.static yL_foresee, Cond.codeWith yL_foresee cL_foresee 5 (some .int) [(0, 10, 13, 15), (0, 10, 17, 13), (0, 10, 21, 25)], Cond.methodLink RL 64 yX6_foresee, Cond.instanceMethod yX6_foresee, Cond.selects RX6 yX6_foresee yX6_foresee, Cond.code yX6_foresee cX6_foresee 4 (some .int), Cond.fieldLink RX6 188 "StampWorks$Works" "pond" "I", Cond.fieldLink RX6 194 "StampWorks$Works" "slime" "I", Cond.methodLink RX6 184 yX5_copyWorks, Cond.instanceMethod yX5_copyWorks, Cond.selects RX5 yX5_copyWorks yX5_copyWorks, Cond.code yX5_copyWorks cX5_copyWorks 3 none, Cond.methodLink RX5 166 arraycopyName, Cond.native arraycopyName]
def wsL_law0_r27 : List Cond := [Cond.static arraycopyName, Cond.initialized "java/lang/System", Cond.methodLink RX5 172 yX0_copyBox, Cond.instanceMethod yX0_copyBox, Cond.selects RX0 yX0_copyBox yX0_copyBox, Cond.code yX0_copyBox cX0_copyBox 3 none, Cond.methodLink RX0 96 yX4_copyStamp, Cond.instanceMethod yX4_copyStamp, Cond.selects RX4 yX4_copyStamp yX4_copyStamp, Cond.code yX4_copyStamp cX4_copyStamp 2 none, Cond.methodLink RX0 100 yX3_copyOre, Cond.instanceMethod yX3_copyOre, Cond.selects RX3 yX3_copyOre yX3_copyOre, Cond.code yX3_copyOre cX3_copyOre 2 none, Cond.methodLink RX3 22 yX3_become, Cond.methodLink RX5 176 yX1_copyHopper, Cond.instanceMethod yX1_copyHopper, Cond.selects RX1 yX1_copyHopper yX1_copyHopper, Cond.code yX1_copyHopper cX1_copyHopper 3 none, Cond.methodLink RX1 59 yX2_copyLot, Cond.instanceMethod yX2_copyLot, Cond.selects RX2 yX2_copyLot yX2_copyLot, Cond.code yX2_copyLot cX2_copyLot 2 none, Cond.methodLink RX2 24 yX3_copyOre]
def wsL_law0_r28 : List Cond := [Cond.methodLink RX5 180 yX3_copyOre, Cond.methodLink RX6 191 yX5_tinOfBuddles, Cond.instanceMethod yX5_tinOfBuddles, Cond.selects RX5 yX5_tinOfBuddles yX5_tinOfBuddles, Cond.code yX5_tinOfBuddles cX5_tinOfBuddles 3 (some .int), Cond.methodLink RX6 197 yX1_oreOfLots, Cond.methodLink RL 133 yX8_foresee, Cond.instanceMethod yX8_foresee, Cond.selects RX8 yX8_foresee yX8_foresee, Cond.code yX8_foresee cX8_foresee 4 (some .int), Cond.methodLink RX8 157 yX7_become, Cond.instanceMethod yX7_become, Cond.selects RX7 yX7_become yX7_become, Cond.code yX7_become cX7_become 2 none, Cond.methodLink RX7 73 yX7_copy, Cond.static yX7_copy, Cond.code yX7_copy cX7_copy 2 none, Cond.methodLink RX7 55 arraycopyName, Cond.methodLink RX8 161 yX7_tinInBuddles, Cond.instanceMethod yX7_tinInBuddles, Cond.selects RX7 yX7_tinInBuddles yX7_tinInBuddles, Cond.code yX7_tinInBuddles cX7_tinInBuddles 1 (some .int), Cond.methodLink RL 134 yL_advise, Cond.static yL_advise]
def wsL_law0_r29 : List Cond := [Cond.codeWith yL_advise cL_advise 4 (some .int) [(0, 9, 12, 15), (0, 9, 15, 25)], Cond.methodLink RL 67 yX6_advise, Cond.instanceMethod yX6_advise, Cond.selects RX6 yX6_advise yX6_advise, Cond.code yX6_advise cX6_advise 6 (some .int), Cond.methodLink RL 136 yX8_advise, Cond.instanceMethod yX8_advise, Cond.selects RX8 yX8_advise yX8_advise, Cond.code yX8_advise cX8_advise 5 (some .int), Cond.methodLink RL 137 yL_bestWater, Cond.static yL_bestWater, Cond.codeWith yL_bestWater cL_bestWater 5 (some .int) [(0, 10, 13, 13), (0, 10, 17, 15)], Cond.methodLink RL 70 yX6_bestWater, Cond.instanceMethod yX6_bestWater, Cond.selects RX6 yX6_bestWater yX6_bestWater, Cond.code yX6_bestWater cX6_bestWater 9 (some .int), Cond.fieldLink RX6 202 "StampWorks$Ore" "tin" "I", Cond.fieldLink RX6 209 "StampWorks$Ore" "rock" "I", Cond.methodLink RX6 205 yX6_tinOfHead, Cond.methodLink RX6 212 yX6_rockOfHead, Cond.methodLink RX6 215 yX6_gradeOf, Cond.methodLink RL 139 yX8_bestWater, Cond.instanceMethod yX8_bestWater, Cond.selects RX8 yX8_bestWater yX8_bestWater]
def wsL_law0_r30 : List Cond := [Cond.code yX8_bestWater cX8_bestWater 7 (some .int), Cond.methodLink RL 140 yX6_share, Cond.instanceMethod yX6_share, Cond.selects RX6 yX6_share yX6_share, Cond.code yX6_share cX6_share 3 (some .double), Cond.fieldLink RX6 218 "StampWorks$Works" "metal" "I", Cond.fieldLink RX6 221 "StampWorks$Works" "tails" "LStampWorks$Ore;", Cond.methodLink RL 144 yX8_share, Cond.instanceMethod yX8_share, Cond.selects RX8 yX8_share yX8_share, Cond.code yX8_share cX8_share 2 (some .double), Cond.methodLink RL 145 yX6_digest, Cond.instanceMethod yX6_digest, Cond.selects RX6 yX6_digest yX6_digest, Cond.code yX6_digest cX6_digest 4 (some .long), Cond.constantLong RX6 224 (499), Cond.methodLink RX6 226 yX6_join, Cond.static yX6_join, Cond.code yX6_join cX6_join 4 (some .long), Cond.constantLong RX6 261 (31), Cond.methodLink RX6 234 yX6_joinBox, Cond.static yX6_joinBox, Cond.code yX6_joinBox cX6_joinBox 6 (some .long), Cond.fieldLink RX6 263 "StampWorks$Stamp" "weight" "I"]
def wsL_law0_r31 : List Cond := [Cond.fieldLink RX6 266 "StampWorks$Stamp" "cams" "I", Cond.methodLink RX6 238 yX6_joinLot, Cond.static yX6_joinLot, Cond.code yX6_joinLot cX6_joinLot 6 (some .long), Cond.methodLink RX6 246 yX6_joinBuddle, Cond.static yX6_joinBuddle, Cond.code yX6_joinBuddle cX6_joinBuddle 6 (some .long), Cond.methodLink RL 149 yX8_digest, Cond.instanceMethod yX8_digest, Cond.selects RX8 yX8_digest yX8_digest, Cond.code yX8_digest cX8_digest 5 (some .long), Cond.constantLong RX8 164 (499), Cond.constantLong RX8 166 (31)]
def wsL_law0 : List Cond := (wsL_law0_r1 ++ (wsL_law0_r2 ++ (wsL_law0_r3 ++ (wsL_law0_r4 ++ (wsL_law0_r5 ++ (wsL_law0_r6 ++ (wsL_law0_r7 ++ (wsL_law0_r8 ++ (wsL_law0_r9 ++ (wsL_law0_r10 ++ (wsL_law0_r11 ++ (wsL_law0_r12 ++ (wsL_law0_r13 ++ (wsL_law0_r14 ++ (wsL_law0_r15 ++ (wsL_law0_r16 ++ (wsL_law0_r17 ++ (wsL_law0_r18 ++ (wsL_law0_r19 ++ (wsL_law0_r20 ++ (wsL_law0_r21 ++ (wsL_law0_r22 ++ (wsL_law0_r23 ++ (wsL_law0_r24 ++ (wsL_law0_r25 ++ (wsL_law0_r26 ++ (wsL_law0_r27 ++ (wsL_law0_r28 ++ (wsL_law0_r29 ++ (wsL_law0_r30 ++ wsL_law0_r31)))))))))))))))))))))))))))))) ++ wsX60 ++ wsX80 ++ wsX50 ++ wsX00 ++ wsX10 ++ wsX30 ++ wsX40 ++ wsX20 ++ wsX70 ++ ([] : List Cond)
def wsL_law : List Cond := wsL_law0 ++ (vx_atS RX6 23 "java/lang/IndexOutOfBoundsException" ["java/lang/RuntimeException", "java/lang/Exception"]).filter goodWord ++ (vx_atS RX6 30 "java/lang/IllegalArgumentException" ["java/lang/RuntimeException", "java/lang/Exception"]).filter goodWord ++ (vx_atS RX6 48 "java/lang/IllegalStateException" ["java/lang/RuntimeException", "java/lang/Exception"]).filter goodWord
theorem inlX0 : ∀ w ∈ wsX00, w ∈ wsL_law := fun _ h => List.mem_append_left _ (List.mem_append_left _ (List.mem_append_left _ (List.mem_append_left _ (List.mem_append_left _ (List.mem_append_left _ (List.mem_append_left _ (List.mem_append_left _ (List.mem_append_left _ (List.mem_append_right _ h)))))))))
theorem inlX1 : ∀ w ∈ wsX10, w ∈ wsL_law := fun _ h => List.mem_append_left _ (List.mem_append_left _ (List.mem_append_left _ (List.mem_append_left _ (List.mem_append_left _ (List.mem_append_left _ (List.mem_append_left _ (List.mem_append_left _ (List.mem_append_right _ h))))))))
theorem inlX2 : ∀ w ∈ wsX20, w ∈ wsL_law := fun _ h => List.mem_append_left _ (List.mem_append_left _ (List.mem_append_left _ (List.mem_append_left _ (List.mem_append_left _ (List.mem_append_right _ h)))))
theorem inlX3 : ∀ w ∈ wsX30, w ∈ wsL_law := fun _ h => List.mem_append_left _ (List.mem_append_left _ (List.mem_append_left _ (List.mem_append_left _ (List.mem_append_left _ (List.mem_append_left _ (List.mem_append_left _ (List.mem_append_right _ h)))))))
theorem inlX4 : ∀ w ∈ wsX40, w ∈ wsL_law := fun _ h => List.mem_append_left _ (List.mem_append_left _ (List.mem_append_left _ (List.mem_append_left _ (List.mem_append_left _ (List.mem_append_left _ (List.mem_append_right _ h))))))
theorem inlX5 : ∀ w ∈ wsX50, w ∈ wsL_law := fun _ h => List.mem_append_left _ (List.mem_append_left _ (List.mem_append_left _ (List.mem_append_left _ (List.mem_append_left _ (List.mem_append_left _ (List.mem_append_left _ (List.mem_append_left _ (List.mem_append_left _ (List.mem_append_left _ (List.mem_append_right _ h))))))))))
theorem inlX6 : ∀ w ∈ wsX60, w ∈ wsL_law := fun _ h => List.mem_append_left _ (List.mem_append_left _ (List.mem_append_left _ (List.mem_append_left _ (List.mem_append_left _ (List.mem_append_left _ (List.mem_append_left _ (List.mem_append_left _ (List.mem_append_left _ (List.mem_append_left _ (List.mem_append_left _ (List.mem_append_left _ (List.mem_append_right _ h))))))))))))
theorem inlX7 : ∀ w ∈ wsX70, w ∈ wsL_law := fun _ h => List.mem_append_left _ (List.mem_append_left _ (List.mem_append_left _ (List.mem_append_left _ (List.mem_append_right _ h))))
theorem inlX8 : ∀ w ∈ wsX80, w ∈ wsL_law := fun _ h => List.mem_append_left _ (List.mem_append_left _ (List.mem_append_left _ (List.mem_append_left _ (List.mem_append_left _ (List.mem_append_left _ (List.mem_append_left _ (List.mem_append_left _ (List.mem_append_left _ (List.mem_append_left _ (List.mem_append_left _ (List.mem_append_right _ h)))))))))))
abbrev vwCl : List vw_C := [(RX0, TX0, 9), (RX1, TX1, 3), (RX2, TX2, 2), (RX3, TX3, 2), (RX4, TX4, 3), (RX5, TX5, 12), (RX6, TX6, 2), (RX7, TX7, 18), (RX8, TX8, 7)]
end
section
theorem dX0_init_0 : decode cX0_init 0 = .ok (.aload_n 0, 1) := by decide +kernel
theorem dX0_init_1 : decode cX0_init 1 = .ok (.invokespecial 3, 3) := by decide +kernel
theorem dX0_init_4 : decode cX0_init 4 = .ok (.aload_n 0, 1) := by decide +kernel
theorem dX0_init_5 : decode cX0_init 5 = .ok (.iconst 4, 1) := by decide +kernel
theorem dX0_init_6 : decode cX0_init 6 = .ok (.anewarray 9, 3) := by decide +kernel
theorem dX0_init_9 : decode cX0_init 9 = .ok (.putfield 11, 3) := by decide +kernel
theorem dX0_init_12 : decode cX0_init 12 = .ok (.iconst 0, 1) := by decide +kernel
theorem dX0_init_13 : decode cX0_init 13 = .ok (.istore_n 1, 1) := by decide +kernel
theorem dX0_init_14 : decode cX0_init 14 = .ok (.iload_n 1, 1) := by decide +kernel
theorem dX0_init_15 : decode cX0_init 15 = .ok (.iconst 4, 1) := by decide +kernel
theorem dX0_init_16 : decode cX0_init 16 = .ok (.if_icmp .ge 22, 3) := by decide +kernel
theorem dX0_init_19 : decode cX0_init 19 = .ok (.aload_n 0, 1) := by decide +kernel
theorem dX0_init_20 : decode cX0_init 20 = .ok (.getfield 11, 3) := by decide +kernel
theorem dX0_init_23 : decode cX0_init 23 = .ok (.iload_n 1, 1) := by decide +kernel
theorem dX0_init_24 : decode cX0_init 24 = .ok (.new 9, 3) := by decide +kernel
theorem dX0_init_27 : decode cX0_init 27 = .ok (.dup, 1) := by decide +kernel
theorem dX0_init_28 : decode cX0_init 28 = .ok (.invokespecial 17, 3) := by decide +kernel
theorem dX0_init_31 : decode cX0_init 31 = .ok (.aastore, 1) := by decide +kernel
theorem dX0_init_32 : decode cX0_init 32 = .ok (.iinc 1 1, 3) := by decide +kernel
theorem dX0_init_35 : decode cX0_init 35 = .ok (.goto (-21), 3) := by decide +kernel
theorem dX0_init_38 : decode cX0_init 38 = .ok (.aload_n 0, 1) := by decide +kernel
theorem dX0_init_39 : decode cX0_init 39 = .ok (.new 18, 3) := by decide +kernel
theorem dX0_init_42 : decode cX0_init 42 = .ok (.dup, 1) := by decide +kernel
theorem dX0_init_43 : decode cX0_init 43 = .ok (.invokespecial 20, 3) := by decide +kernel
theorem dX0_init_46 : decode cX0_init 46 = .ok (.putfield 21, 3) := by decide +kernel
theorem dX0_init_49 : decode cX0_init 49 = .ok (.aload_n 0, 1) := by decide +kernel
theorem dX0_init_50 : decode cX0_init 50 = .ok (.new 18, 3) := by decide +kernel
theorem dX0_init_53 : decode cX0_init 53 = .ok (.dup, 1) := by decide +kernel
theorem dX0_init_54 : decode cX0_init 54 = .ok (.invokespecial 20, 3) := by decide +kernel
theorem dX0_init_57 : decode cX0_init 57 = .ok (.putfield 25, 3) := by decide +kernel
theorem dX0_init_60 : decode cX0_init 60 = .ok (.aload_n 0, 1) := by decide +kernel
theorem dX0_init_61 : decode cX0_init 61 = .ok (.new 18, 3) := by decide +kernel
theorem dX0_init_64 : decode cX0_init 64 = .ok (.dup, 1) := by decide +kernel
theorem dX0_init_65 : decode cX0_init 65 = .ok (.invokespecial 20, 3) := by decide +kernel
theorem dX0_init_68 : decode cX0_init 68 = .ok (.putfield 28, 3) := by decide +kernel
theorem dX0_init_71 : decode cX0_init 71 = .ok (.aload_n 0, 1) := by decide +kernel
theorem dX0_init_72 : decode cX0_init 72 = .ok (.bipush 50, 2) := by decide +kernel
theorem dX0_init_74 : decode cX0_init 74 = .ok (.putfield 31, 3) := by decide +kernel
theorem dX0_init_77 : decode cX0_init 77 = .ok (.aload_n 0, 1) := by decide +kernel
theorem dX0_init_78 : decode cX0_init 78 = .ok (.iconst 5, 1) := by decide +kernel
theorem dX0_init_79 : decode cX0_init 79 = .ok (.putfield 35, 3) := by decide +kernel
theorem dX0_init_82 : decode cX0_init 82 = .ok (.return_, 1) := by decide +kernel
theorem dX0_addStamp_0 : decode cX0_addStamp 0 = .ok (.aload_n 0, 1) := by decide +kernel
theorem dX0_addStamp_1 : decode cX0_addStamp 1 = .ok (.getfield 11, 3) := by decide +kernel
theorem dX0_addStamp_4 : decode cX0_addStamp 4 = .ok (.aload_n 0, 1) := by decide +kernel
theorem dX0_addStamp_5 : decode cX0_addStamp 5 = .ok (.getfield 38, 3) := by decide +kernel
theorem dX0_addStamp_8 : decode cX0_addStamp 8 = .ok (.aaload, 1) := by decide +kernel
theorem dX0_addStamp_9 : decode cX0_addStamp 9 = .ok (.astore_n 3, 1) := by decide +kernel
theorem dX0_addStamp_10 : decode cX0_addStamp 10 = .ok (.aload_n 3, 1) := by decide +kernel
theorem dX0_addStamp_11 : decode cX0_addStamp 11 = .ok (.iload_n 1, 1) := by decide +kernel
theorem dX0_addStamp_12 : decode cX0_addStamp 12 = .ok (.putfield 41, 3) := by decide +kernel
theorem dX0_addStamp_15 : decode cX0_addStamp 15 = .ok (.aload_n 3, 1) := by decide +kernel
theorem dX0_addStamp_16 : decode cX0_addStamp 16 = .ok (.iload_n 2, 1) := by decide +kernel
theorem dX0_addStamp_17 : decode cX0_addStamp 17 = .ok (.putfield 44, 3) := by decide +kernel
theorem dX0_addStamp_20 : decode cX0_addStamp 20 = .ok (.aload_n 0, 1) := by decide +kernel
theorem dX0_addStamp_21 : decode cX0_addStamp 21 = .ok (.dup, 1) := by decide +kernel
theorem dX0_addStamp_22 : decode cX0_addStamp 22 = .ok (.getfield 38, 3) := by decide +kernel
theorem dX0_addStamp_25 : decode cX0_addStamp 25 = .ok (.iconst 1, 1) := by decide +kernel
theorem dX0_addStamp_26 : decode cX0_addStamp 26 = .ok (.iadd, 1) := by decide +kernel
theorem dX0_addStamp_27 : decode cX0_addStamp 27 = .ok (.putfield 38, 3) := by decide +kernel
theorem dX0_addStamp_30 : decode cX0_addStamp 30 = .ok (.return_, 1) := by decide +kernel
theorem dX0_tellOfBox_0 : decode cX0_tellOfBox 0 = .ok (.iload_n 1, 1) := by decide +kernel
theorem dX0_tellOfBox_1 : decode cX0_tellOfBox 1 = .ok (.tableswitch 132 0 10 #[59, 64, 69, 74, 79, 87, 95, 103, 111, 119, 127], 59) := by decide +kernel
theorem dX0_tellOfBox_60 : decode cX0_tellOfBox 60 = .ok (.aload_n 0, 1) := by decide +kernel
theorem dX0_tellOfBox_61 : decode cX0_tellOfBox 61 = .ok (.getfield 38, 3) := by decide +kernel
theorem dX0_tellOfBox_64 : decode cX0_tellOfBox 64 = .ok (.ireturn, 1) := by decide +kernel
theorem dX0_tellOfBox_65 : decode cX0_tellOfBox 65 = .ok (.aload_n 0, 1) := by decide +kernel
theorem dX0_tellOfBox_66 : decode cX0_tellOfBox 66 = .ok (.getfield 31, 3) := by decide +kernel
theorem dX0_tellOfBox_69 : decode cX0_tellOfBox 69 = .ok (.ireturn, 1) := by decide +kernel
theorem dX0_tellOfBox_70 : decode cX0_tellOfBox 70 = .ok (.aload_n 0, 1) := by decide +kernel
theorem dX0_tellOfBox_71 : decode cX0_tellOfBox 71 = .ok (.getfield 47, 3) := by decide +kernel
theorem dX0_tellOfBox_74 : decode cX0_tellOfBox 74 = .ok (.ireturn, 1) := by decide +kernel
theorem dX0_tellOfBox_75 : decode cX0_tellOfBox 75 = .ok (.aload_n 0, 1) := by decide +kernel
theorem dX0_tellOfBox_76 : decode cX0_tellOfBox 76 = .ok (.getfield 35, 3) := by decide +kernel
theorem dX0_tellOfBox_79 : decode cX0_tellOfBox 79 = .ok (.ireturn, 1) := by decide +kernel
theorem dX0_tellOfBox_80 : decode cX0_tellOfBox 80 = .ok (.aload_n 0, 1) := by decide +kernel
theorem dX0_tellOfBox_81 : decode cX0_tellOfBox 81 = .ok (.getfield 21, 3) := by decide +kernel
theorem dX0_tellOfBox_84 : decode cX0_tellOfBox 84 = .ok (.getfield 50, 3) := by decide +kernel
theorem dX0_tellOfBox_87 : decode cX0_tellOfBox 87 = .ok (.ireturn, 1) := by decide +kernel
theorem dX0_tellOfBox_88 : decode cX0_tellOfBox 88 = .ok (.aload_n 0, 1) := by decide +kernel
theorem dX0_tellOfBox_89 : decode cX0_tellOfBox 89 = .ok (.getfield 25, 3) := by decide +kernel
theorem dX0_tellOfBox_92 : decode cX0_tellOfBox 92 = .ok (.getfield 50, 3) := by decide +kernel
theorem dX0_tellOfBox_95 : decode cX0_tellOfBox 95 = .ok (.ireturn, 1) := by decide +kernel
theorem dX0_tellOfBox_96 : decode cX0_tellOfBox 96 = .ok (.aload_n 0, 1) := by decide +kernel
theorem dX0_tellOfBox_97 : decode cX0_tellOfBox 97 = .ok (.getfield 28, 3) := by decide +kernel
theorem dX0_tellOfBox_100 : decode cX0_tellOfBox 100 = .ok (.getfield 50, 3) := by decide +kernel
theorem dX0_tellOfBox_103 : decode cX0_tellOfBox 103 = .ok (.ireturn, 1) := by decide +kernel
theorem dX0_tellOfBox_104 : decode cX0_tellOfBox 104 = .ok (.aload_n 0, 1) := by decide +kernel
theorem dX0_tellOfBox_105 : decode cX0_tellOfBox 105 = .ok (.getfield 21, 3) := by decide +kernel
theorem dX0_tellOfBox_108 : decode cX0_tellOfBox 108 = .ok (.getfield 53, 3) := by decide +kernel
theorem dX0_tellOfBox_111 : decode cX0_tellOfBox 111 = .ok (.ireturn, 1) := by decide +kernel
theorem dX0_tellOfBox_112 : decode cX0_tellOfBox 112 = .ok (.aload_n 0, 1) := by decide +kernel
theorem dX0_tellOfBox_113 : decode cX0_tellOfBox 113 = .ok (.getfield 25, 3) := by decide +kernel
theorem dX0_tellOfBox_116 : decode cX0_tellOfBox 116 = .ok (.getfield 53, 3) := by decide +kernel
theorem dX0_tellOfBox_119 : decode cX0_tellOfBox 119 = .ok (.ireturn, 1) := by decide +kernel
theorem dX0_tellOfBox_120 : decode cX0_tellOfBox 120 = .ok (.aload_n 0, 1) := by decide +kernel
theorem dX0_tellOfBox_121 : decode cX0_tellOfBox 121 = .ok (.getfield 28, 3) := by decide +kernel
theorem dX0_tellOfBox_124 : decode cX0_tellOfBox 124 = .ok (.getfield 53, 3) := by decide +kernel
theorem dX0_tellOfBox_127 : decode cX0_tellOfBox 127 = .ok (.ireturn, 1) := by decide +kernel
theorem dX0_tellOfBox_128 : decode cX0_tellOfBox 128 = .ok (.aload_n 0, 1) := by decide +kernel
theorem dX0_tellOfBox_129 : decode cX0_tellOfBox 129 = .ok (.invokevirtual 56, 3) := by decide +kernel
theorem dX0_tellOfBox_132 : decode cX0_tellOfBox 132 = .ok (.ireturn, 1) := by decide +kernel
theorem dX0_tellOfBox_133 : decode cX0_tellOfBox 133 = .ok (.aload_n 0, 1) := by decide +kernel
theorem dX0_tellOfBox_134 : decode cX0_tellOfBox 134 = .ok (.getfield 60, 3) := by decide +kernel
theorem dX0_tellOfBox_137 : decode cX0_tellOfBox 137 = .ok (.ireturn, 1) := by decide +kernel
theorem dX0_tinOfSizes_0 : decode cX0_tinOfSizes 0 = .ok (.aload_n 0, 1) := by decide +kernel
theorem dX0_tinOfSizes_1 : decode cX0_tinOfSizes 1 = .ok (.getfield 21, 3) := by decide +kernel
theorem dX0_tinOfSizes_4 : decode cX0_tinOfSizes 4 = .ok (.getfield 53, 3) := by decide +kernel
theorem dX0_tinOfSizes_7 : decode cX0_tinOfSizes 7 = .ok (.aload_n 0, 1) := by decide +kernel
theorem dX0_tinOfSizes_8 : decode cX0_tinOfSizes 8 = .ok (.getfield 25, 3) := by decide +kernel
theorem dX0_tinOfSizes_11 : decode cX0_tinOfSizes 11 = .ok (.getfield 53, 3) := by decide +kernel
theorem dX0_tinOfSizes_14 : decode cX0_tinOfSizes 14 = .ok (.iadd, 1) := by decide +kernel
theorem dX0_tinOfSizes_15 : decode cX0_tinOfSizes 15 = .ok (.aload_n 0, 1) := by decide +kernel
theorem dX0_tinOfSizes_16 : decode cX0_tinOfSizes 16 = .ok (.getfield 28, 3) := by decide +kernel
theorem dX0_tinOfSizes_19 : decode cX0_tinOfSizes 19 = .ok (.getfield 53, 3) := by decide +kernel
theorem dX0_tinOfSizes_22 : decode cX0_tinOfSizes 22 = .ok (.iadd, 1) := by decide +kernel
theorem dX0_tinOfSizes_23 : decode cX0_tinOfSizes 23 = .ok (.ireturn, 1) := by decide +kernel
theorem dX0_wearOfStamps_0 : decode cX0_wearOfStamps 0 = .ok (.iconst 0, 1) := by decide +kernel
theorem dX0_wearOfStamps_1 : decode cX0_wearOfStamps 1 = .ok (.istore_n 1, 1) := by decide +kernel
theorem dX0_wearOfStamps_2 : decode cX0_wearOfStamps 2 = .ok (.iconst 0, 1) := by decide +kernel
theorem dX0_wearOfStamps_3 : decode cX0_wearOfStamps 3 = .ok (.istore_n 2, 1) := by decide +kernel
theorem dX0_wearOfStamps_4 : decode cX0_wearOfStamps 4 = .ok (.iload_n 2, 1) := by decide +kernel
theorem dX0_wearOfStamps_5 : decode cX0_wearOfStamps 5 = .ok (.aload_n 0, 1) := by decide +kernel
theorem dX0_wearOfStamps_6 : decode cX0_wearOfStamps 6 = .ok (.getfield 38, 3) := by decide +kernel
theorem dX0_wearOfStamps_9 : decode cX0_wearOfStamps 9 = .ok (.if_icmp .ge 21, 3) := by decide +kernel
theorem dX0_wearOfStamps_12 : decode cX0_wearOfStamps 12 = .ok (.iload_n 1, 1) := by decide +kernel
theorem dX0_wearOfStamps_13 : decode cX0_wearOfStamps 13 = .ok (.aload_n 0, 1) := by decide +kernel
theorem dX0_wearOfStamps_14 : decode cX0_wearOfStamps 14 = .ok (.getfield 11, 3) := by decide +kernel
theorem dX0_wearOfStamps_17 : decode cX0_wearOfStamps 17 = .ok (.iload_n 2, 1) := by decide +kernel
theorem dX0_wearOfStamps_18 : decode cX0_wearOfStamps 18 = .ok (.aaload, 1) := by decide +kernel
theorem dX0_wearOfStamps_19 : decode cX0_wearOfStamps 19 = .ok (.getfield 63, 3) := by decide +kernel
theorem dX0_wearOfStamps_22 : decode cX0_wearOfStamps 22 = .ok (.iadd, 1) := by decide +kernel
theorem dX0_wearOfStamps_23 : decode cX0_wearOfStamps 23 = .ok (.istore_n 1, 1) := by decide +kernel
theorem dX0_wearOfStamps_24 : decode cX0_wearOfStamps 24 = .ok (.iinc 2 1, 3) := by decide +kernel
theorem dX0_wearOfStamps_27 : decode cX0_wearOfStamps 27 = .ok (.goto (-23), 3) := by decide +kernel
theorem dX0_wearOfStamps_30 : decode cX0_wearOfStamps 30 = .ok (.iload_n 1, 1) := by decide +kernel
theorem dX0_wearOfStamps_31 : decode cX0_wearOfStamps 31 = .ok (.ireturn, 1) := by decide +kernel
theorem dX0_loadOfStamps_0 : decode cX0_loadOfStamps 0 = .ok (.iconst 0, 1) := by decide +kernel
theorem dX0_loadOfStamps_1 : decode cX0_loadOfStamps 1 = .ok (.istore_n 1, 1) := by decide +kernel
theorem dX0_loadOfStamps_2 : decode cX0_loadOfStamps 2 = .ok (.iconst 0, 1) := by decide +kernel
theorem dX0_loadOfStamps_3 : decode cX0_loadOfStamps 3 = .ok (.istore_n 2, 1) := by decide +kernel
theorem dX0_loadOfStamps_4 : decode cX0_loadOfStamps 4 = .ok (.iload_n 2, 1) := by decide +kernel
theorem dX0_loadOfStamps_5 : decode cX0_loadOfStamps 5 = .ok (.aload_n 0, 1) := by decide +kernel
theorem dX0_loadOfStamps_6 : decode cX0_loadOfStamps 6 = .ok (.getfield 38, 3) := by decide +kernel
theorem dX0_loadOfStamps_9 : decode cX0_loadOfStamps 9 = .ok (.if_icmp .ge 21, 3) := by decide +kernel
theorem dX0_loadOfStamps_12 : decode cX0_loadOfStamps 12 = .ok (.iload_n 1, 1) := by decide +kernel
theorem dX0_loadOfStamps_13 : decode cX0_loadOfStamps 13 = .ok (.aload_n 0, 1) := by decide +kernel
theorem dX0_loadOfStamps_14 : decode cX0_loadOfStamps 14 = .ok (.getfield 11, 3) := by decide +kernel
theorem dX0_loadOfStamps_17 : decode cX0_loadOfStamps 17 = .ok (.iload_n 2, 1) := by decide +kernel
theorem dX0_loadOfStamps_18 : decode cX0_loadOfStamps 18 = .ok (.aaload, 1) := by decide +kernel
theorem dX0_loadOfStamps_19 : decode cX0_loadOfStamps 19 = .ok (.invokevirtual 66, 3) := by decide +kernel
theorem dX0_loadOfStamps_22 : decode cX0_loadOfStamps 22 = .ok (.iadd, 1) := by decide +kernel
theorem dX0_loadOfStamps_23 : decode cX0_loadOfStamps 23 = .ok (.istore_n 1, 1) := by decide +kernel
theorem dX0_loadOfStamps_24 : decode cX0_loadOfStamps 24 = .ok (.iinc 2 1, 3) := by decide +kernel
theorem dX0_loadOfStamps_27 : decode cX0_loadOfStamps 27 = .ok (.goto (-23), 3) := by decide +kernel
theorem dX0_loadOfStamps_30 : decode cX0_loadOfStamps 30 = .ok (.iload_n 1, 1) := by decide +kernel
theorem dX0_loadOfStamps_31 : decode cX0_loadOfStamps 31 = .ok (.ireturn, 1) := by decide +kernel
theorem dX0_forceOfStamps_0 : decode cX0_forceOfStamps 0 = .ok (.iconst 0, 1) := by decide +kernel
theorem dX0_forceOfStamps_1 : decode cX0_forceOfStamps 1 = .ok (.istore_n 2, 1) := by decide +kernel
theorem dX0_forceOfStamps_2 : decode cX0_forceOfStamps 2 = .ok (.iconst 0, 1) := by decide +kernel
theorem dX0_forceOfStamps_3 : decode cX0_forceOfStamps 3 = .ok (.istore_n 3, 1) := by decide +kernel
theorem dX0_forceOfStamps_4 : decode cX0_forceOfStamps 4 = .ok (.iload_n 3, 1) := by decide +kernel
theorem dX0_forceOfStamps_5 : decode cX0_forceOfStamps 5 = .ok (.aload_n 0, 1) := by decide +kernel
theorem dX0_forceOfStamps_6 : decode cX0_forceOfStamps 6 = .ok (.getfield 38, 3) := by decide +kernel
theorem dX0_forceOfStamps_9 : decode cX0_forceOfStamps 9 = .ok (.if_icmp .ge 22, 3) := by decide +kernel
theorem dX0_forceOfStamps_12 : decode cX0_forceOfStamps 12 = .ok (.iload_n 2, 1) := by decide +kernel
theorem dX0_forceOfStamps_13 : decode cX0_forceOfStamps 13 = .ok (.aload_n 0, 1) := by decide +kernel
theorem dX0_forceOfStamps_14 : decode cX0_forceOfStamps 14 = .ok (.getfield 11, 3) := by decide +kernel
theorem dX0_forceOfStamps_17 : decode cX0_forceOfStamps 17 = .ok (.iload_n 3, 1) := by decide +kernel
theorem dX0_forceOfStamps_18 : decode cX0_forceOfStamps 18 = .ok (.aaload, 1) := by decide +kernel
theorem dX0_forceOfStamps_19 : decode cX0_forceOfStamps 19 = .ok (.iload_n 1, 1) := by decide +kernel
theorem dX0_forceOfStamps_20 : decode cX0_forceOfStamps 20 = .ok (.invokevirtual 69, 3) := by decide +kernel
theorem dX0_forceOfStamps_23 : decode cX0_forceOfStamps 23 = .ok (.iadd, 1) := by decide +kernel
theorem dX0_forceOfStamps_24 : decode cX0_forceOfStamps 24 = .ok (.istore_n 2, 1) := by decide +kernel
theorem dX0_forceOfStamps_25 : decode cX0_forceOfStamps 25 = .ok (.iinc 3 1, 3) := by decide +kernel
theorem dX0_forceOfStamps_28 : decode cX0_forceOfStamps 28 = .ok (.goto (-24), 3) := by decide +kernel
theorem dX0_forceOfStamps_31 : decode cX0_forceOfStamps 31 = .ok (.iload_n 2, 1) := by decide +kernel
theorem dX0_forceOfStamps_32 : decode cX0_forceOfStamps 32 = .ok (.ireturn, 1) := by decide +kernel
theorem dX0_blow_0 : decode cX0_blow 0 = .ok (.aload_n 0, 1) := by decide +kernel
theorem dX0_blow_1 : decode cX0_blow 1 = .ok (.aload_n 0, 1) := by decide +kernel
theorem dX0_blow_2 : decode cX0_blow 2 = .ok (.iload_n 1, 1) := by decide +kernel
theorem dX0_blow_3 : decode cX0_blow 3 = .ok (.invokevirtual 73, 3) := by decide +kernel
theorem dX0_blow_6 : decode cX0_blow 6 = .ok (.putfield 60, 3) := by decide +kernel
theorem dX0_blow_9 : decode cX0_blow 9 = .ok (.iconst 1, 1) := by decide +kernel
theorem dX0_blow_10 : decode cX0_blow 10 = .ok (.aload_n 0, 1) := by decide +kernel
theorem dX0_blow_11 : decode cX0_blow 11 = .ok (.getfield 35, 3) := by decide +kernel
theorem dX0_blow_14 : decode cX0_blow 14 = .ok (.invokestatic 76, 3) := by decide +kernel
theorem dX0_blow_17 : decode cX0_blow 17 = .ok (.istore_n 2, 1) := by decide +kernel
theorem dX0_blow_18 : decode cX0_blow 18 = .ok (.aload_n 0, 1) := by decide +kernel
theorem dX0_blow_19 : decode cX0_blow 19 = .ok (.getfield 21, 3) := by decide +kernel
theorem dX0_blow_22 : decode cX0_blow 22 = .ok (.aload_n 0, 1) := by decide +kernel
theorem dX0_blow_23 : decode cX0_blow 23 = .ok (.getfield 25, 3) := by decide +kernel
theorem dX0_blow_26 : decode cX0_blow 26 = .ok (.aload_n 0, 1) := by decide +kernel
theorem dX0_blow_27 : decode cX0_blow 27 = .ok (.getfield 60, 3) := by decide +kernel
theorem dX0_blow_30 : decode cX0_blow 30 = .ok (.iload_n 2, 1) := by decide +kernel
theorem dX0_blow_31 : decode cX0_blow 31 = .ok (.idiv, 1) := by decide +kernel
theorem dX0_blow_32 : decode cX0_blow 32 = .ok (.invokevirtual 82, 3) := by decide +kernel
theorem dX0_blow_35 : decode cX0_blow 35 = .ok (.pop, 1) := by decide +kernel
theorem dX0_blow_36 : decode cX0_blow 36 = .ok (.aload_n 0, 1) := by decide +kernel
theorem dX0_blow_37 : decode cX0_blow 37 = .ok (.getfield 25, 3) := by decide +kernel
theorem dX0_blow_40 : decode cX0_blow 40 = .ok (.aload_n 0, 1) := by decide +kernel
theorem dX0_blow_41 : decode cX0_blow 41 = .ok (.getfield 28, 3) := by decide +kernel
theorem dX0_blow_44 : decode cX0_blow 44 = .ok (.aload_n 0, 1) := by decide +kernel
theorem dX0_blow_45 : decode cX0_blow 45 = .ok (.getfield 60, 3) := by decide +kernel
theorem dX0_blow_48 : decode cX0_blow 48 = .ok (.iconst 2, 1) := by decide +kernel
theorem dX0_blow_49 : decode cX0_blow 49 = .ok (.iload_n 2, 1) := by decide +kernel
theorem dX0_blow_50 : decode cX0_blow 50 = .ok (.imul, 1) := by decide +kernel
theorem dX0_blow_51 : decode cX0_blow 51 = .ok (.idiv, 1) := by decide +kernel
theorem dX0_blow_52 : decode cX0_blow 52 = .ok (.invokevirtual 82, 3) := by decide +kernel
theorem dX0_blow_55 : decode cX0_blow 55 = .ok (.pop, 1) := by decide +kernel
theorem dX0_blow_56 : decode cX0_blow 56 = .ok (.return_, 1) := by decide +kernel
theorem dX0_loseSlime_0 : decode cX0_loseSlime 0 = .ok (.aload_n 0, 1) := by decide +kernel
theorem dX0_loseSlime_1 : decode cX0_loseSlime 1 = .ok (.getfield 28, 3) := by decide +kernel
theorem dX0_loseSlime_4 : decode cX0_loseSlime 4 = .ok (.getfield 53, 3) := by decide +kernel
theorem dX0_loseSlime_7 : decode cX0_loseSlime 7 = .ok (.iconst 1, 1) := by decide +kernel
theorem dX0_loseSlime_8 : decode cX0_loseSlime 8 = .ok (.aload_n 0, 1) := by decide +kernel
theorem dX0_loseSlime_9 : decode cX0_loseSlime 9 = .ok (.getfield 28, 3) := by decide +kernel
theorem dX0_loseSlime_12 : decode cX0_loseSlime 12 = .ok (.getfield 53, 3) := by decide +kernel
theorem dX0_loseSlime_15 : decode cX0_loseSlime 15 = .ok (.bipush 10, 2) := by decide +kernel
theorem dX0_loseSlime_17 : decode cX0_loseSlime 17 = .ok (.idiv, 1) := by decide +kernel
theorem dX0_loseSlime_18 : decode cX0_loseSlime 18 = .ok (.invokestatic 76, 3) := by decide +kernel
theorem dX0_loseSlime_21 : decode cX0_loseSlime 21 = .ok (.invokestatic 86, 3) := by decide +kernel
theorem dX0_loseSlime_24 : decode cX0_loseSlime 24 = .ok (.istore_n 1, 1) := by decide +kernel
theorem dX0_loseSlime_25 : decode cX0_loseSlime 25 = .ok (.aload_n 0, 1) := by decide +kernel
theorem dX0_loseSlime_26 : decode cX0_loseSlime 26 = .ok (.getfield 28, 3) := by decide +kernel
theorem dX0_loseSlime_29 : decode cX0_loseSlime 29 = .ok (.dup, 1) := by decide +kernel
theorem dX0_loseSlime_30 : decode cX0_loseSlime 30 = .ok (.getfield 53, 3) := by decide +kernel
theorem dX0_loseSlime_33 : decode cX0_loseSlime 33 = .ok (.iload_n 1, 1) := by decide +kernel
theorem dX0_loseSlime_34 : decode cX0_loseSlime 34 = .ok (.isub, 1) := by decide +kernel
theorem dX0_loseSlime_35 : decode cX0_loseSlime 35 = .ok (.putfield 53, 3) := by decide +kernel
theorem dX0_loseSlime_38 : decode cX0_loseSlime 38 = .ok (.iload_n 1, 1) := by decide +kernel
theorem dX0_loseSlime_39 : decode cX0_loseSlime 39 = .ok (.ireturn, 1) := by decide +kernel
theorem dX0_grate_0 : decode cX0_grate 0 = .ok (.aload_n 0, 1) := by decide +kernel
theorem dX0_grate_1 : decode cX0_grate 1 = .ok (.getfield 28, 3) := by decide +kernel
theorem dX0_grate_4 : decode cX0_grate 4 = .ok (.aload_n 1, 1) := by decide +kernel
theorem dX0_grate_5 : decode cX0_grate 5 = .ok (.iload_n 2, 1) := by decide +kernel
theorem dX0_grate_6 : decode cX0_grate 6 = .ok (.iconst 4, 1) := by decide +kernel
theorem dX0_grate_7 : decode cX0_grate 7 = .ok (.idiv, 1) := by decide +kernel
theorem dX0_grate_8 : decode cX0_grate 8 = .ok (.sipush 6000, 3) := by decide +kernel
theorem dX0_grate_11 : decode cX0_grate 11 = .ok (.aload_n 1, 1) := by decide +kernel
theorem dX0_grate_12 : decode cX0_grate 12 = .ok (.invokevirtual 89, 3) := by decide +kernel
theorem dX0_grate_15 : decode cX0_grate 15 = .ok (.isub, 1) := by decide +kernel
theorem dX0_grate_16 : decode cX0_grate 16 = .ok (.invokestatic 86, 3) := by decide +kernel
theorem dX0_grate_19 : decode cX0_grate 19 = .ok (.invokevirtual 82, 3) := by decide +kernel
theorem dX0_grate_22 : decode cX0_grate 22 = .ok (.pop, 1) := by decide +kernel
theorem dX0_grate_23 : decode cX0_grate 23 = .ok (.return_, 1) := by decide +kernel
theorem dX0_wearStamps_0 : decode cX0_wearStamps 0 = .ok (.iconst 0, 1) := by decide +kernel
theorem dX0_wearStamps_1 : decode cX0_wearStamps 1 = .ok (.istore_n 2, 1) := by decide +kernel
theorem dX0_wearStamps_2 : decode cX0_wearStamps 2 = .ok (.iload_n 2, 1) := by decide +kernel
theorem dX0_wearStamps_3 : decode cX0_wearStamps 3 = .ok (.aload_n 0, 1) := by decide +kernel
theorem dX0_wearStamps_4 : decode cX0_wearStamps 4 = .ok (.getfield 38, 3) := by decide +kernel
theorem dX0_wearStamps_7 : decode cX0_wearStamps 7 = .ok (.if_icmp .ge 19, 3) := by decide +kernel
theorem dX0_wearStamps_10 : decode cX0_wearStamps 10 = .ok (.aload_n 0, 1) := by decide +kernel
theorem dX0_wearStamps_11 : decode cX0_wearStamps 11 = .ok (.getfield 11, 3) := by decide +kernel
theorem dX0_wearStamps_14 : decode cX0_wearStamps 14 = .ok (.iload_n 2, 1) := by decide +kernel
theorem dX0_wearStamps_15 : decode cX0_wearStamps 15 = .ok (.aaload, 1) := by decide +kernel
theorem dX0_wearStamps_16 : decode cX0_wearStamps 16 = .ok (.iload_n 1, 1) := by decide +kernel
theorem dX0_wearStamps_17 : decode cX0_wearStamps 17 = .ok (.invokevirtual 92, 3) := by decide +kernel
theorem dX0_wearStamps_20 : decode cX0_wearStamps 20 = .ok (.iinc 2 1, 3) := by decide +kernel
theorem dX0_wearStamps_23 : decode cX0_wearStamps 23 = .ok (.goto (-21), 3) := by decide +kernel
theorem dX0_wearStamps_26 : decode cX0_wearStamps 26 = .ok (.return_, 1) := by decide +kernel
theorem dX0_copyBox_0 : decode cX0_copyBox 0 = .ok (.aload_n 0, 1) := by decide +kernel
theorem dX0_copyBox_1 : decode cX0_copyBox 1 = .ok (.aload_n 1, 1) := by decide +kernel
theorem dX0_copyBox_2 : decode cX0_copyBox 2 = .ok (.getfield 38, 3) := by decide +kernel
theorem dX0_copyBox_5 : decode cX0_copyBox 5 = .ok (.putfield 38, 3) := by decide +kernel
theorem dX0_copyBox_8 : decode cX0_copyBox 8 = .ok (.iconst 0, 1) := by decide +kernel
theorem dX0_copyBox_9 : decode cX0_copyBox 9 = .ok (.istore_n 2, 1) := by decide +kernel
theorem dX0_copyBox_10 : decode cX0_copyBox 10 = .ok (.iload_n 2, 1) := by decide +kernel
theorem dX0_copyBox_11 : decode cX0_copyBox 11 = .ok (.aload_n 0, 1) := by decide +kernel
theorem dX0_copyBox_12 : decode cX0_copyBox 12 = .ok (.getfield 38, 3) := by decide +kernel
theorem dX0_copyBox_15 : decode cX0_copyBox 15 = .ok (.if_icmp .ge 24, 3) := by decide +kernel
theorem dX0_copyBox_18 : decode cX0_copyBox 18 = .ok (.aload_n 0, 1) := by decide +kernel
theorem dX0_copyBox_19 : decode cX0_copyBox 19 = .ok (.getfield 11, 3) := by decide +kernel
theorem dX0_copyBox_22 : decode cX0_copyBox 22 = .ok (.iload_n 2, 1) := by decide +kernel
theorem dX0_copyBox_23 : decode cX0_copyBox 23 = .ok (.aaload, 1) := by decide +kernel
theorem dX0_copyBox_24 : decode cX0_copyBox 24 = .ok (.aload_n 1, 1) := by decide +kernel
theorem dX0_copyBox_25 : decode cX0_copyBox 25 = .ok (.getfield 11, 3) := by decide +kernel
theorem dX0_copyBox_28 : decode cX0_copyBox 28 = .ok (.iload_n 2, 1) := by decide +kernel
theorem dX0_copyBox_29 : decode cX0_copyBox 29 = .ok (.aaload, 1) := by decide +kernel
theorem dX0_copyBox_30 : decode cX0_copyBox 30 = .ok (.invokevirtual 96, 3) := by decide +kernel
theorem dX0_copyBox_33 : decode cX0_copyBox 33 = .ok (.iinc 2 1, 3) := by decide +kernel
theorem dX0_copyBox_36 : decode cX0_copyBox 36 = .ok (.goto (-26), 3) := by decide +kernel
theorem dX0_copyBox_39 : decode cX0_copyBox 39 = .ok (.aload_n 0, 1) := by decide +kernel
theorem dX0_copyBox_40 : decode cX0_copyBox 40 = .ok (.getfield 21, 3) := by decide +kernel
theorem dX0_copyBox_43 : decode cX0_copyBox 43 = .ok (.aload_n 1, 1) := by decide +kernel
theorem dX0_copyBox_44 : decode cX0_copyBox 44 = .ok (.getfield 21, 3) := by decide +kernel
theorem dX0_copyBox_47 : decode cX0_copyBox 47 = .ok (.invokevirtual 100, 3) := by decide +kernel
theorem dX0_copyBox_50 : decode cX0_copyBox 50 = .ok (.aload_n 0, 1) := by decide +kernel
theorem dX0_copyBox_51 : decode cX0_copyBox 51 = .ok (.getfield 25, 3) := by decide +kernel
theorem dX0_copyBox_54 : decode cX0_copyBox 54 = .ok (.aload_n 1, 1) := by decide +kernel
theorem dX0_copyBox_55 : decode cX0_copyBox 55 = .ok (.getfield 25, 3) := by decide +kernel
theorem dX0_copyBox_58 : decode cX0_copyBox 58 = .ok (.invokevirtual 100, 3) := by decide +kernel
theorem dX0_copyBox_61 : decode cX0_copyBox 61 = .ok (.aload_n 0, 1) := by decide +kernel
theorem dX0_copyBox_62 : decode cX0_copyBox 62 = .ok (.getfield 28, 3) := by decide +kernel
theorem dX0_copyBox_65 : decode cX0_copyBox 65 = .ok (.aload_n 1, 1) := by decide +kernel
theorem dX0_copyBox_66 : decode cX0_copyBox 66 = .ok (.getfield 28, 3) := by decide +kernel
theorem dX0_copyBox_69 : decode cX0_copyBox 69 = .ok (.invokevirtual 100, 3) := by decide +kernel
theorem dX0_copyBox_72 : decode cX0_copyBox 72 = .ok (.aload_n 0, 1) := by decide +kernel
theorem dX0_copyBox_73 : decode cX0_copyBox 73 = .ok (.aload_n 1, 1) := by decide +kernel
theorem dX0_copyBox_74 : decode cX0_copyBox 74 = .ok (.getfield 31, 3) := by decide +kernel
theorem dX0_copyBox_77 : decode cX0_copyBox 77 = .ok (.putfield 31, 3) := by decide +kernel
theorem dX0_copyBox_80 : decode cX0_copyBox 80 = .ok (.aload_n 0, 1) := by decide +kernel
theorem dX0_copyBox_81 : decode cX0_copyBox 81 = .ok (.aload_n 1, 1) := by decide +kernel
theorem dX0_copyBox_82 : decode cX0_copyBox 82 = .ok (.getfield 47, 3) := by decide +kernel
theorem dX0_copyBox_85 : decode cX0_copyBox 85 = .ok (.putfield 47, 3) := by decide +kernel
theorem dX0_copyBox_88 : decode cX0_copyBox 88 = .ok (.aload_n 0, 1) := by decide +kernel
theorem dX0_copyBox_89 : decode cX0_copyBox 89 = .ok (.aload_n 1, 1) := by decide +kernel
theorem dX0_copyBox_90 : decode cX0_copyBox 90 = .ok (.getfield 35, 3) := by decide +kernel
theorem dX0_copyBox_93 : decode cX0_copyBox 93 = .ok (.putfield 35, 3) := by decide +kernel
theorem dX0_copyBox_96 : decode cX0_copyBox 96 = .ok (.aload_n 0, 1) := by decide +kernel
theorem dX0_copyBox_97 : decode cX0_copyBox 97 = .ok (.aload_n 1, 1) := by decide +kernel
theorem dX0_copyBox_98 : decode cX0_copyBox 98 = .ok (.getfield 60, 3) := by decide +kernel
theorem dX0_copyBox_101 : decode cX0_copyBox 101 = .ok (.putfield 60, 3) := by decide +kernel
theorem dX0_copyBox_104 : decode cX0_copyBox 104 = .ok (.return_, 1) := by decide +kernel
theorem dX1_init_0 : decode cX1_init 0 = .ok (.aload_n 0, 1) := by decide +kernel
theorem dX1_init_1 : decode cX1_init 1 = .ok (.invokespecial 3, 3) := by decide +kernel
theorem dX1_init_4 : decode cX1_init 4 = .ok (.aload_n 0, 1) := by decide +kernel
theorem dX1_init_5 : decode cX1_init 5 = .ok (.bipush 30, 2) := by decide +kernel
theorem dX1_init_7 : decode cX1_init 7 = .ok (.anewarray 9, 3) := by decide +kernel
theorem dX1_init_10 : decode cX1_init 10 = .ok (.putfield 11, 3) := by decide +kernel
theorem dX1_init_13 : decode cX1_init 13 = .ok (.iconst 0, 1) := by decide +kernel
theorem dX1_init_14 : decode cX1_init 14 = .ok (.istore_n 1, 1) := by decide +kernel
theorem dX1_init_15 : decode cX1_init 15 = .ok (.iload_n 1, 1) := by decide +kernel
theorem dX1_init_16 : decode cX1_init 16 = .ok (.bipush 30, 2) := by decide +kernel
theorem dX1_init_18 : decode cX1_init 18 = .ok (.if_icmp .ge 22, 3) := by decide +kernel
theorem dX1_init_21 : decode cX1_init 21 = .ok (.aload_n 0, 1) := by decide +kernel
theorem dX1_init_22 : decode cX1_init 22 = .ok (.getfield 11, 3) := by decide +kernel
theorem dX1_init_25 : decode cX1_init 25 = .ok (.iload_n 1, 1) := by decide +kernel
theorem dX1_init_26 : decode cX1_init 26 = .ok (.new 9, 3) := by decide +kernel
theorem dX1_init_29 : decode cX1_init 29 = .ok (.dup, 1) := by decide +kernel
theorem dX1_init_30 : decode cX1_init 30 = .ok (.invokespecial 17, 3) := by decide +kernel
theorem dX1_init_33 : decode cX1_init 33 = .ok (.aastore, 1) := by decide +kernel
theorem dX1_init_34 : decode cX1_init 34 = .ok (.iinc 1 1, 3) := by decide +kernel
theorem dX1_init_37 : decode cX1_init 37 = .ok (.goto (-22), 3) := by decide +kernel
theorem dX1_init_40 : decode cX1_init 40 = .ok (.return_, 1) := by decide +kernel
theorem dX1_lotAt_0 : decode cX1_lotAt 0 = .ok (.aload_n 0, 1) := by decide +kernel
theorem dX1_lotAt_1 : decode cX1_lotAt 1 = .ok (.getfield 11, 3) := by decide +kernel
theorem dX1_lotAt_4 : decode cX1_lotAt 4 = .ok (.aload_n 0, 1) := by decide +kernel
theorem dX1_lotAt_5 : decode cX1_lotAt 5 = .ok (.getfield 18, 3) := by decide +kernel
theorem dX1_lotAt_8 : decode cX1_lotAt 8 = .ok (.iload_n 1, 1) := by decide +kernel
theorem dX1_lotAt_9 : decode cX1_lotAt 9 = .ok (.iadd, 1) := by decide +kernel
theorem dX1_lotAt_10 : decode cX1_lotAt 10 = .ok (.bipush 30, 2) := by decide +kernel
theorem dX1_lotAt_12 : decode cX1_lotAt 12 = .ok (.invokestatic 22, 3) := by decide +kernel
theorem dX1_lotAt_15 : decode cX1_lotAt 15 = .ok (.aaload, 1) := by decide +kernel
theorem dX1_lotAt_16 : decode cX1_lotAt 16 = .ok (.areturn, 1) := by decide +kernel
theorem dX1_addLot_0 : decode cX1_addLot 0 = .ok (.aload_n 0, 1) := by decide +kernel
theorem dX1_addLot_1 : decode cX1_addLot 1 = .ok (.aload_n 0, 1) := by decide +kernel
theorem dX1_addLot_2 : decode cX1_addLot 2 = .ok (.getfield 28, 3) := by decide +kernel
theorem dX1_addLot_5 : decode cX1_addLot 5 = .ok (.invokevirtual 31, 3) := by decide +kernel
theorem dX1_addLot_8 : decode cX1_addLot 8 = .ok (.astore 4, 2) := by decide +kernel
theorem dX1_addLot_10 : decode cX1_addLot 10 = .ok (.aload 4, 2) := by decide +kernel
theorem dX1_addLot_12 : decode cX1_addLot 12 = .ok (.getfield 35, 3) := by decide +kernel
theorem dX1_addLot_15 : decode cX1_addLot 15 = .ok (.iload_n 1, 1) := by decide +kernel
theorem dX1_addLot_16 : decode cX1_addLot 16 = .ok (.iload_n 2, 1) := by decide +kernel
theorem dX1_addLot_17 : decode cX1_addLot 17 = .ok (.invokevirtual 39, 3) := by decide +kernel
theorem dX1_addLot_20 : decode cX1_addLot 20 = .ok (.aload 4, 2) := by decide +kernel
theorem dX1_addLot_22 : decode cX1_addLot 22 = .ok (.iload_n 3, 1) := by decide +kernel
theorem dX1_addLot_23 : decode cX1_addLot 23 = .ok (.putfield 45, 3) := by decide +kernel
theorem dX1_addLot_26 : decode cX1_addLot 26 = .ok (.aload_n 0, 1) := by decide +kernel
theorem dX1_addLot_27 : decode cX1_addLot 27 = .ok (.dup, 1) := by decide +kernel
theorem dX1_addLot_28 : decode cX1_addLot 28 = .ok (.getfield 28, 3) := by decide +kernel
theorem dX1_addLot_31 : decode cX1_addLot 31 = .ok (.iconst 1, 1) := by decide +kernel
theorem dX1_addLot_32 : decode cX1_addLot 32 = .ok (.iadd, 1) := by decide +kernel
theorem dX1_addLot_33 : decode cX1_addLot 33 = .ok (.putfield 28, 3) := by decide +kernel
theorem dX1_addLot_36 : decode cX1_addLot 36 = .ok (.return_, 1) := by decide +kernel
theorem dX1_dropFirst_0 : decode cX1_dropFirst 0 = .ok (.aload_n 0, 1) := by decide +kernel
theorem dX1_dropFirst_1 : decode cX1_dropFirst 1 = .ok (.aload_n 0, 1) := by decide +kernel
theorem dX1_dropFirst_2 : decode cX1_dropFirst 2 = .ok (.getfield 18, 3) := by decide +kernel
theorem dX1_dropFirst_5 : decode cX1_dropFirst 5 = .ok (.iconst 1, 1) := by decide +kernel
theorem dX1_dropFirst_6 : decode cX1_dropFirst 6 = .ok (.iadd, 1) := by decide +kernel
theorem dX1_dropFirst_7 : decode cX1_dropFirst 7 = .ok (.bipush 30, 2) := by decide +kernel
theorem dX1_dropFirst_9 : decode cX1_dropFirst 9 = .ok (.invokestatic 22, 3) := by decide +kernel
theorem dX1_dropFirst_12 : decode cX1_dropFirst 12 = .ok (.putfield 18, 3) := by decide +kernel
theorem dX1_dropFirst_15 : decode cX1_dropFirst 15 = .ok (.aload_n 0, 1) := by decide +kernel
theorem dX1_dropFirst_16 : decode cX1_dropFirst 16 = .ok (.dup, 1) := by decide +kernel
theorem dX1_dropFirst_17 : decode cX1_dropFirst 17 = .ok (.getfield 28, 3) := by decide +kernel
theorem dX1_dropFirst_20 : decode cX1_dropFirst 20 = .ok (.iconst 1, 1) := by decide +kernel
theorem dX1_dropFirst_21 : decode cX1_dropFirst 21 = .ok (.isub, 1) := by decide +kernel
theorem dX1_dropFirst_22 : decode cX1_dropFirst 22 = .ok (.putfield 28, 3) := by decide +kernel
theorem dX1_dropFirst_25 : decode cX1_dropFirst 25 = .ok (.return_, 1) := by decide +kernel
theorem dX1_oreOfLots_0 : decode cX1_oreOfLots 0 = .ok (.iconst 0, 1) := by decide +kernel
theorem dX1_oreOfLots_1 : decode cX1_oreOfLots 1 = .ok (.istore_n 1, 1) := by decide +kernel
theorem dX1_oreOfLots_2 : decode cX1_oreOfLots 2 = .ok (.iconst 0, 1) := by decide +kernel
theorem dX1_oreOfLots_3 : decode cX1_oreOfLots 3 = .ok (.istore_n 2, 1) := by decide +kernel
theorem dX1_oreOfLots_4 : decode cX1_oreOfLots 4 = .ok (.iload_n 2, 1) := by decide +kernel
theorem dX1_oreOfLots_5 : decode cX1_oreOfLots 5 = .ok (.aload_n 0, 1) := by decide +kernel
theorem dX1_oreOfLots_6 : decode cX1_oreOfLots 6 = .ok (.getfield 28, 3) := by decide +kernel
theorem dX1_oreOfLots_9 : decode cX1_oreOfLots 9 = .ok (.if_icmp .ge 23, 3) := by decide +kernel
theorem dX1_oreOfLots_12 : decode cX1_oreOfLots 12 = .ok (.iload_n 1, 1) := by decide +kernel
theorem dX1_oreOfLots_13 : decode cX1_oreOfLots 13 = .ok (.aload_n 0, 1) := by decide +kernel
theorem dX1_oreOfLots_14 : decode cX1_oreOfLots 14 = .ok (.iload_n 2, 1) := by decide +kernel
theorem dX1_oreOfLots_15 : decode cX1_oreOfLots 15 = .ok (.invokevirtual 31, 3) := by decide +kernel
theorem dX1_oreOfLots_18 : decode cX1_oreOfLots 18 = .ok (.getfield 35, 3) := by decide +kernel
theorem dX1_oreOfLots_21 : decode cX1_oreOfLots 21 = .ok (.invokevirtual 48, 3) := by decide +kernel
theorem dX1_oreOfLots_24 : decode cX1_oreOfLots 24 = .ok (.iadd, 1) := by decide +kernel
theorem dX1_oreOfLots_25 : decode cX1_oreOfLots 25 = .ok (.istore_n 1, 1) := by decide +kernel
theorem dX1_oreOfLots_26 : decode cX1_oreOfLots 26 = .ok (.iinc 2 1, 3) := by decide +kernel
theorem dX1_oreOfLots_29 : decode cX1_oreOfLots 29 = .ok (.goto (-25), 3) := by decide +kernel
theorem dX1_oreOfLots_32 : decode cX1_oreOfLots 32 = .ok (.iload_n 1, 1) := by decide +kernel
theorem dX1_oreOfLots_33 : decode cX1_oreOfLots 33 = .ok (.ireturn, 1) := by decide +kernel
theorem dX1_feedInto_0 : decode cX1_feedInto 0 = .ok (.iload_n 3, 1) := by decide +kernel
theorem dX1_feedInto_1 : decode cX1_feedInto 1 = .ok (.istore 4, 2) := by decide +kernel
theorem dX1_feedInto_3 : decode cX1_feedInto 3 = .ok (.iload_n 2, 1) := by decide +kernel
theorem dX1_feedInto_4 : decode cX1_feedInto 4 = .ok (.istore 5, 2) := by decide +kernel
theorem dX1_feedInto_6 : decode cX1_feedInto 6 = .ok (.iconst 0, 1) := by decide +kernel
theorem dX1_feedInto_7 : decode cX1_feedInto 7 = .ok (.istore 6, 2) := by decide +kernel
theorem dX1_feedInto_9 : decode cX1_feedInto 9 = .ok (.iload 6, 2) := by decide +kernel
theorem dX1_feedInto_11 : decode cX1_feedInto 11 = .ok (.bipush 30, 2) := by decide +kernel
theorem dX1_feedInto_13 : decode cX1_feedInto 13 = .ok (.if_icmp .ge 66, 3) := by decide +kernel
theorem dX1_feedInto_16 : decode cX1_feedInto 16 = .ok (.iload 5, 2) := by decide +kernel
theorem dX1_feedInto_18 : decode cX1_feedInto 18 = .ok (.ifCond .le 61, 3) := by decide +kernel
theorem dX1_feedInto_21 : decode cX1_feedInto 21 = .ok (.aload_n 0, 1) := by decide +kernel
theorem dX1_feedInto_22 : decode cX1_feedInto 22 = .ok (.getfield 28, 3) := by decide +kernel
theorem dX1_feedInto_25 : decode cX1_feedInto 25 = .ok (.ifCond .le 54, 3) := by decide +kernel
theorem dX1_feedInto_28 : decode cX1_feedInto 28 = .ok (.aload_n 0, 1) := by decide +kernel
theorem dX1_feedInto_29 : decode cX1_feedInto 29 = .ok (.iconst 0, 1) := by decide +kernel
theorem dX1_feedInto_30 : decode cX1_feedInto 30 = .ok (.invokevirtual 31, 3) := by decide +kernel
theorem dX1_feedInto_33 : decode cX1_feedInto 33 = .ok (.astore 7, 2) := by decide +kernel
theorem dX1_feedInto_35 : decode cX1_feedInto 35 = .ok (.iload 5, 2) := by decide +kernel
theorem dX1_feedInto_37 : decode cX1_feedInto 37 = .ok (.aload 7, 2) := by decide +kernel
theorem dX1_feedInto_39 : decode cX1_feedInto 39 = .ok (.getfield 35, 3) := by decide +kernel
theorem dX1_feedInto_42 : decode cX1_feedInto 42 = .ok (.aload_n 1, 1) := by decide +kernel
theorem dX1_feedInto_43 : decode cX1_feedInto 43 = .ok (.iload 5, 2) := by decide +kernel
theorem dX1_feedInto_45 : decode cX1_feedInto 45 = .ok (.invokevirtual 52, 3) := by decide +kernel
theorem dX1_feedInto_48 : decode cX1_feedInto 48 = .ok (.isub, 1) := by decide +kernel
theorem dX1_feedInto_49 : decode cX1_feedInto 49 = .ok (.istore 5, 2) := by decide +kernel
theorem dX1_feedInto_51 : decode cX1_feedInto 51 = .ok (.aload 7, 2) := by decide +kernel
theorem dX1_feedInto_53 : decode cX1_feedInto 53 = .ok (.getfield 45, 3) := by decide +kernel
theorem dX1_feedInto_56 : decode cX1_feedInto 56 = .ok (.istore 4, 2) := by decide +kernel
theorem dX1_feedInto_58 : decode cX1_feedInto 58 = .ok (.aload 7, 2) := by decide +kernel
theorem dX1_feedInto_60 : decode cX1_feedInto 60 = .ok (.getfield 35, 3) := by decide +kernel
theorem dX1_feedInto_63 : decode cX1_feedInto 63 = .ok (.invokevirtual 48, 3) := by decide +kernel
theorem dX1_feedInto_66 : decode cX1_feedInto 66 = .ok (.ifCond .ne 7, 3) := by decide +kernel
theorem dX1_feedInto_69 : decode cX1_feedInto 69 = .ok (.aload_n 0, 1) := by decide +kernel
theorem dX1_feedInto_70 : decode cX1_feedInto 70 = .ok (.invokevirtual 56, 3) := by decide +kernel
theorem dX1_feedInto_73 : decode cX1_feedInto 73 = .ok (.iinc 6 1, 3) := by decide +kernel
theorem dX1_feedInto_76 : decode cX1_feedInto 76 = .ok (.goto (-67), 3) := by decide +kernel
theorem dX1_feedInto_79 : decode cX1_feedInto 79 = .ok (.iload 4, 2) := by decide +kernel
theorem dX1_feedInto_81 : decode cX1_feedInto 81 = .ok (.ireturn, 1) := by decide +kernel
theorem dX1_copyHopper_0 : decode cX1_copyHopper 0 = .ok (.aload_n 0, 1) := by decide +kernel
theorem dX1_copyHopper_1 : decode cX1_copyHopper 1 = .ok (.aload_n 1, 1) := by decide +kernel
theorem dX1_copyHopper_2 : decode cX1_copyHopper 2 = .ok (.getfield 18, 3) := by decide +kernel
theorem dX1_copyHopper_5 : decode cX1_copyHopper 5 = .ok (.putfield 18, 3) := by decide +kernel
theorem dX1_copyHopper_8 : decode cX1_copyHopper 8 = .ok (.aload_n 0, 1) := by decide +kernel
theorem dX1_copyHopper_9 : decode cX1_copyHopper 9 = .ok (.aload_n 1, 1) := by decide +kernel
theorem dX1_copyHopper_10 : decode cX1_copyHopper 10 = .ok (.getfield 28, 3) := by decide +kernel
theorem dX1_copyHopper_13 : decode cX1_copyHopper 13 = .ok (.putfield 28, 3) := by decide +kernel
theorem dX1_copyHopper_16 : decode cX1_copyHopper 16 = .ok (.iconst 0, 1) := by decide +kernel
theorem dX1_copyHopper_17 : decode cX1_copyHopper 17 = .ok (.istore_n 2, 1) := by decide +kernel
theorem dX1_copyHopper_18 : decode cX1_copyHopper 18 = .ok (.iload_n 2, 1) := by decide +kernel
theorem dX1_copyHopper_19 : decode cX1_copyHopper 19 = .ok (.aload_n 0, 1) := by decide +kernel
theorem dX1_copyHopper_20 : decode cX1_copyHopper 20 = .ok (.getfield 28, 3) := by decide +kernel
theorem dX1_copyHopper_23 : decode cX1_copyHopper 23 = .ok (.if_icmp .ge 22, 3) := by decide +kernel
theorem dX1_copyHopper_26 : decode cX1_copyHopper 26 = .ok (.aload_n 0, 1) := by decide +kernel
theorem dX1_copyHopper_27 : decode cX1_copyHopper 27 = .ok (.iload_n 2, 1) := by decide +kernel
theorem dX1_copyHopper_28 : decode cX1_copyHopper 28 = .ok (.invokevirtual 31, 3) := by decide +kernel
theorem dX1_copyHopper_31 : decode cX1_copyHopper 31 = .ok (.aload_n 1, 1) := by decide +kernel
theorem dX1_copyHopper_32 : decode cX1_copyHopper 32 = .ok (.iload_n 2, 1) := by decide +kernel
theorem dX1_copyHopper_33 : decode cX1_copyHopper 33 = .ok (.invokevirtual 31, 3) := by decide +kernel
theorem dX1_copyHopper_36 : decode cX1_copyHopper 36 = .ok (.invokevirtual 59, 3) := by decide +kernel
theorem dX1_copyHopper_39 : decode cX1_copyHopper 39 = .ok (.iinc 2 1, 3) := by decide +kernel
theorem dX1_copyHopper_42 : decode cX1_copyHopper 42 = .ok (.goto (-24), 3) := by decide +kernel
theorem dX1_copyHopper_45 : decode cX1_copyHopper 45 = .ok (.return_, 1) := by decide +kernel
theorem dX2_init_0 : decode cX2_init 0 = .ok (.aload_n 0, 1) := by decide +kernel
theorem dX2_init_1 : decode cX2_init 1 = .ok (.invokespecial 1, 3) := by decide +kernel
theorem dX2_init_4 : decode cX2_init 4 = .ok (.aload_n 0, 1) := by decide +kernel
theorem dX2_init_5 : decode cX2_init 5 = .ok (.new 7, 3) := by decide +kernel
theorem dX2_init_8 : decode cX2_init 8 = .ok (.dup, 1) := by decide +kernel
theorem dX2_init_9 : decode cX2_init 9 = .ok (.invokespecial 9, 3) := by decide +kernel
theorem dX2_init_12 : decode cX2_init 12 = .ok (.putfield 10, 3) := by decide +kernel
theorem dX2_init_15 : decode cX2_init 15 = .ok (.return_, 1) := by decide +kernel
theorem dX2_tellOfLot_0 : decode cX2_tellOfLot 0 = .ok (.iload_n 1, 1) := by decide +kernel
theorem dX2_tellOfLot_1 : decode cX2_tellOfLot 1 = .ok (.iconst 2, 1) := by decide +kernel
theorem dX2_tellOfLot_2 : decode cX2_tellOfLot 2 = .ok (.if_icmp .ne 10, 3) := by decide +kernel
theorem dX2_tellOfLot_5 : decode cX2_tellOfLot 5 = .ok (.aload_n 0, 1) := by decide +kernel
theorem dX2_tellOfLot_6 : decode cX2_tellOfLot 6 = .ok (.getfield 16, 3) := by decide +kernel
theorem dX2_tellOfLot_9 : decode cX2_tellOfLot 9 = .ok (.goto 11, 3) := by decide +kernel
theorem dX2_tellOfLot_12 : decode cX2_tellOfLot 12 = .ok (.aload_n 0, 1) := by decide +kernel
theorem dX2_tellOfLot_13 : decode cX2_tellOfLot 13 = .ok (.getfield 10, 3) := by decide +kernel
theorem dX2_tellOfLot_16 : decode cX2_tellOfLot 16 = .ok (.iload_n 1, 1) := by decide +kernel
theorem dX2_tellOfLot_17 : decode cX2_tellOfLot 17 = .ok (.invokevirtual 20, 3) := by decide +kernel
theorem dX2_tellOfLot_20 : decode cX2_tellOfLot 20 = .ok (.ireturn, 1) := by decide +kernel
theorem dX2_copyLot_0 : decode cX2_copyLot 0 = .ok (.aload_n 0, 1) := by decide +kernel
theorem dX2_copyLot_1 : decode cX2_copyLot 1 = .ok (.getfield 10, 3) := by decide +kernel
theorem dX2_copyLot_4 : decode cX2_copyLot 4 = .ok (.aload_n 1, 1) := by decide +kernel
theorem dX2_copyLot_5 : decode cX2_copyLot 5 = .ok (.getfield 10, 3) := by decide +kernel
theorem dX2_copyLot_8 : decode cX2_copyLot 8 = .ok (.invokevirtual 24, 3) := by decide +kernel
theorem dX2_copyLot_11 : decode cX2_copyLot 11 = .ok (.aload_n 0, 1) := by decide +kernel
theorem dX2_copyLot_12 : decode cX2_copyLot 12 = .ok (.aload_n 1, 1) := by decide +kernel
theorem dX2_copyLot_13 : decode cX2_copyLot 13 = .ok (.getfield 16, 3) := by decide +kernel
theorem dX2_copyLot_16 : decode cX2_copyLot 16 = .ok (.putfield 16, 3) := by decide +kernel
theorem dX2_copyLot_19 : decode cX2_copyLot 19 = .ok (.return_, 1) := by decide +kernel
theorem dX3_init_0 : decode cX3_init 0 = .ok (.aload_n 0, 1) := by decide +kernel
theorem dX3_init_1 : decode cX3_init 1 = .ok (.invokespecial 1, 3) := by decide +kernel
theorem dX3_init_4 : decode cX3_init 4 = .ok (.return_, 1) := by decide +kernel
theorem dX3_whole_0 : decode cX3_whole 0 = .ok (.aload_n 0, 1) := by decide +kernel
theorem dX3_whole_1 : decode cX3_whole 1 = .ok (.getfield 7, 3) := by decide +kernel
theorem dX3_whole_4 : decode cX3_whole 4 = .ok (.aload_n 0, 1) := by decide +kernel
theorem dX3_whole_5 : decode cX3_whole 5 = .ok (.getfield 13, 3) := by decide +kernel
theorem dX3_whole_8 : decode cX3_whole 8 = .ok (.iadd, 1) := by decide +kernel
theorem dX3_whole_9 : decode cX3_whole 9 = .ok (.ireturn, 1) := by decide +kernel
theorem dX3_tellOfOre_0 : decode cX3_tellOfOre 0 = .ok (.iload_n 1, 1) := by decide +kernel
theorem dX3_tellOfOre_1 : decode cX3_tellOfOre 1 = .ok (.lookupswitch 37 #[(0, 27), (1, 32)], 27) := by decide +kernel
theorem dX3_tellOfOre_28 : decode cX3_tellOfOre 28 = .ok (.aload_n 0, 1) := by decide +kernel
theorem dX3_tellOfOre_29 : decode cX3_tellOfOre 29 = .ok (.getfield 7, 3) := by decide +kernel
theorem dX3_tellOfOre_32 : decode cX3_tellOfOre 32 = .ok (.ireturn, 1) := by decide +kernel
theorem dX3_tellOfOre_33 : decode cX3_tellOfOre 33 = .ok (.aload_n 0, 1) := by decide +kernel
theorem dX3_tellOfOre_34 : decode cX3_tellOfOre 34 = .ok (.getfield 13, 3) := by decide +kernel
theorem dX3_tellOfOre_37 : decode cX3_tellOfOre 37 = .ok (.ireturn, 1) := by decide +kernel
theorem dX3_tellOfOre_38 : decode cX3_tellOfOre 38 = .ok (.aload_n 0, 1) := by decide +kernel
theorem dX3_tellOfOre_39 : decode cX3_tellOfOre 39 = .ok (.getfield 7, 3) := by decide +kernel
theorem dX3_tellOfOre_42 : decode cX3_tellOfOre 42 = .ok (.aload_n 0, 1) := by decide +kernel
theorem dX3_tellOfOre_43 : decode cX3_tellOfOre 43 = .ok (.getfield 13, 3) := by decide +kernel
theorem dX3_tellOfOre_46 : decode cX3_tellOfOre 46 = .ok (.invokestatic 16, 3) := by decide +kernel
theorem dX3_tellOfOre_49 : decode cX3_tellOfOre 49 = .ok (.ireturn, 1) := by decide +kernel
theorem dX3_put_0 : decode cX3_put 0 = .ok (.aload_n 0, 1) := by decide +kernel
theorem dX3_put_1 : decode cX3_put 1 = .ok (.dup, 1) := by decide +kernel
theorem dX3_put_2 : decode cX3_put 2 = .ok (.getfield 7, 3) := by decide +kernel
theorem dX3_put_5 : decode cX3_put 5 = .ok (.iload_n 1, 1) := by decide +kernel
theorem dX3_put_6 : decode cX3_put 6 = .ok (.iadd, 1) := by decide +kernel
theorem dX3_put_7 : decode cX3_put 7 = .ok (.putfield 7, 3) := by decide +kernel
theorem dX3_put_10 : decode cX3_put 10 = .ok (.aload_n 0, 1) := by decide +kernel
theorem dX3_put_11 : decode cX3_put 11 = .ok (.dup, 1) := by decide +kernel
theorem dX3_put_12 : decode cX3_put 12 = .ok (.getfield 13, 3) := by decide +kernel
theorem dX3_put_15 : decode cX3_put 15 = .ok (.iload_n 2, 1) := by decide +kernel
theorem dX3_put_16 : decode cX3_put 16 = .ok (.iadd, 1) := by decide +kernel
theorem dX3_put_17 : decode cX3_put 17 = .ok (.putfield 13, 3) := by decide +kernel
theorem dX3_put_20 : decode cX3_put 20 = .ok (.return_, 1) := by decide +kernel
theorem dX3_become_0 : decode cX3_become 0 = .ok (.aload_n 0, 1) := by decide +kernel
theorem dX3_become_1 : decode cX3_become 1 = .ok (.iload_n 1, 1) := by decide +kernel
theorem dX3_become_2 : decode cX3_become 2 = .ok (.putfield 7, 3) := by decide +kernel
theorem dX3_become_5 : decode cX3_become 5 = .ok (.aload_n 0, 1) := by decide +kernel
theorem dX3_become_6 : decode cX3_become 6 = .ok (.iload_n 2, 1) := by decide +kernel
theorem dX3_become_7 : decode cX3_become 7 = .ok (.putfield 13, 3) := by decide +kernel
theorem dX3_become_10 : decode cX3_become 10 = .ok (.return_, 1) := by decide +kernel
theorem dX3_copyOre_0 : decode cX3_copyOre 0 = .ok (.aload_n 0, 1) := by decide +kernel
theorem dX3_copyOre_1 : decode cX3_copyOre 1 = .ok (.aload_n 1, 1) := by decide +kernel
theorem dX3_copyOre_2 : decode cX3_copyOre 2 = .ok (.getfield 7, 3) := by decide +kernel
theorem dX3_copyOre_5 : decode cX3_copyOre 5 = .ok (.aload_n 1, 1) := by decide +kernel
theorem dX3_copyOre_6 : decode cX3_copyOre 6 = .ok (.getfield 13, 3) := by decide +kernel
theorem dX3_copyOre_9 : decode cX3_copyOre 9 = .ok (.invokevirtual 22, 3) := by decide +kernel
theorem dX3_copyOre_12 : decode cX3_copyOre 12 = .ok (.return_, 1) := by decide +kernel
theorem dX3_moveTo_0 : decode cX3_moveTo 0 = .ok (.iload_n 2, 1) := by decide +kernel
theorem dX3_moveTo_1 : decode cX3_moveTo 1 = .ok (.aload_n 0, 1) := by decide +kernel
theorem dX3_moveTo_2 : decode cX3_moveTo 2 = .ok (.invokevirtual 26, 3) := by decide +kernel
theorem dX3_moveTo_5 : decode cX3_moveTo 5 = .ok (.invokestatic 30, 3) := by decide +kernel
theorem dX3_moveTo_8 : decode cX3_moveTo 8 = .ok (.istore_n 3, 1) := by decide +kernel
theorem dX3_moveTo_9 : decode cX3_moveTo 9 = .ok (.iload_n 3, 1) := by decide +kernel
theorem dX3_moveTo_10 : decode cX3_moveTo 10 = .ok (.iconst 1, 1) := by decide +kernel
theorem dX3_moveTo_11 : decode cX3_moveTo 11 = .ok (.if_icmp .ge 5, 3) := by decide +kernel
theorem dX3_moveTo_14 : decode cX3_moveTo 14 = .ok (.iconst 0, 1) := by decide +kernel
theorem dX3_moveTo_15 : decode cX3_moveTo 15 = .ok (.ireturn, 1) := by decide +kernel
theorem dX3_moveTo_16 : decode cX3_moveTo 16 = .ok (.aload_n 0, 1) := by decide +kernel
theorem dX3_moveTo_17 : decode cX3_moveTo 17 = .ok (.getfield 13, 3) := by decide +kernel
theorem dX3_moveTo_20 : decode cX3_moveTo 20 = .ok (.iload_n 3, 1) := by decide +kernel
theorem dX3_moveTo_21 : decode cX3_moveTo 21 = .ok (.aload_n 0, 1) := by decide +kernel
theorem dX3_moveTo_22 : decode cX3_moveTo 22 = .ok (.invokevirtual 26, 3) := by decide +kernel
theorem dX3_moveTo_25 : decode cX3_moveTo 25 = .ok (.invokestatic 35, 3) := by decide +kernel
theorem dX3_moveTo_28 : decode cX3_moveTo 28 = .ok (.istore 4, 2) := by decide +kernel
theorem dX3_moveTo_30 : decode cX3_moveTo 30 = .ok (.aload_n 1, 1) := by decide +kernel
theorem dX3_moveTo_31 : decode cX3_moveTo 31 = .ok (.iload_n 3, 1) := by decide +kernel
theorem dX3_moveTo_32 : decode cX3_moveTo 32 = .ok (.iload 4, 2) := by decide +kernel
theorem dX3_moveTo_34 : decode cX3_moveTo 34 = .ok (.isub, 1) := by decide +kernel
theorem dX3_moveTo_35 : decode cX3_moveTo 35 = .ok (.iload 4, 2) := by decide +kernel
theorem dX3_moveTo_37 : decode cX3_moveTo 37 = .ok (.invokevirtual 39, 3) := by decide +kernel
theorem dX3_moveTo_40 : decode cX3_moveTo 40 = .ok (.aload_n 0, 1) := by decide +kernel
theorem dX3_moveTo_41 : decode cX3_moveTo 41 = .ok (.iload 4, 2) := by decide +kernel
theorem dX3_moveTo_43 : decode cX3_moveTo 43 = .ok (.iload_n 3, 1) := by decide +kernel
theorem dX3_moveTo_44 : decode cX3_moveTo 44 = .ok (.isub, 1) := by decide +kernel
theorem dX3_moveTo_45 : decode cX3_moveTo 45 = .ok (.iload 4, 2) := by decide +kernel
theorem dX3_moveTo_47 : decode cX3_moveTo 47 = .ok (.ineg, 1) := by decide +kernel
theorem dX3_moveTo_48 : decode cX3_moveTo 48 = .ok (.invokevirtual 39, 3) := by decide +kernel
theorem dX3_moveTo_51 : decode cX3_moveTo 51 = .ok (.iload_n 3, 1) := by decide +kernel
theorem dX3_moveTo_52 : decode cX3_moveTo 52 = .ok (.ireturn, 1) := by decide +kernel
theorem dX4_init_0 : decode cX4_init 0 = .ok (.aload_n 0, 1) := by decide +kernel
theorem dX4_init_1 : decode cX4_init 1 = .ok (.invokespecial 3, 3) := by decide +kernel
theorem dX4_init_4 : decode cX4_init 4 = .ok (.return_, 1) := by decide +kernel
theorem dX4_loadOfStamp_0 : decode cX4_loadOfStamp 0 = .ok (.aload_n 0, 1) := by decide +kernel
theorem dX4_loadOfStamp_1 : decode cX4_loadOfStamp 1 = .ok (.getfield 9, 3) := by decide +kernel
theorem dX4_loadOfStamp_4 : decode cX4_loadOfStamp 4 = .ok (.aload_n 0, 1) := by decide +kernel
theorem dX4_loadOfStamp_5 : decode cX4_loadOfStamp 5 = .ok (.getfield 15, 3) := by decide +kernel
theorem dX4_loadOfStamp_8 : decode cX4_loadOfStamp 8 = .ok (.imul, 1) := by decide +kernel
theorem dX4_loadOfStamp_9 : decode cX4_loadOfStamp 9 = .ok (.iconst 4, 1) := by decide +kernel
theorem dX4_loadOfStamp_10 : decode cX4_loadOfStamp 10 = .ok (.idiv, 1) := by decide +kernel
theorem dX4_loadOfStamp_11 : decode cX4_loadOfStamp 11 = .ok (.ireturn, 1) := by decide +kernel
theorem dX4_forceOfStamp_0 : decode cX4_forceOfStamp 0 = .ok (.aload_n 0, 1) := by decide +kernel
theorem dX4_forceOfStamp_1 : decode cX4_forceOfStamp 1 = .ok (.getfield 9, 3) := by decide +kernel
theorem dX4_forceOfStamp_4 : decode cX4_forceOfStamp 4 = .ok (.aload_n 0, 1) := by decide +kernel
theorem dX4_forceOfStamp_5 : decode cX4_forceOfStamp 5 = .ok (.getfield 15, 3) := by decide +kernel
theorem dX4_forceOfStamp_8 : decode cX4_forceOfStamp 8 = .ok (.imul, 1) := by decide +kernel
theorem dX4_forceOfStamp_9 : decode cX4_forceOfStamp 9 = .ok (.iload_n 1, 1) := by decide +kernel
theorem dX4_forceOfStamp_10 : decode cX4_forceOfStamp 10 = .ok (.imul, 1) := by decide +kernel
theorem dX4_forceOfStamp_11 : decode cX4_forceOfStamp 11 = .ok (.bipush 100, 2) := by decide +kernel
theorem dX4_forceOfStamp_13 : decode cX4_forceOfStamp 13 = .ok (.aload_n 0, 1) := by decide +kernel
theorem dX4_forceOfStamp_14 : decode cX4_forceOfStamp 14 = .ok (.getfield 18, 3) := by decide +kernel
theorem dX4_forceOfStamp_17 : decode cX4_forceOfStamp 17 = .ok (.isub, 1) := by decide +kernel
theorem dX4_forceOfStamp_18 : decode cX4_forceOfStamp 18 = .ok (.imul, 1) := by decide +kernel
theorem dX4_forceOfStamp_19 : decode cX4_forceOfStamp 19 = .ok (.sipush 1000, 3) := by decide +kernel
theorem dX4_forceOfStamp_22 : decode cX4_forceOfStamp 22 = .ok (.idiv, 1) := by decide +kernel
theorem dX4_forceOfStamp_23 : decode cX4_forceOfStamp 23 = .ok (.ireturn, 1) := by decide +kernel
theorem dX4_wearBy_0 : decode cX4_wearBy 0 = .ok (.aload_n 0, 1) := by decide +kernel
theorem dX4_wearBy_1 : decode cX4_wearBy 1 = .ok (.bipush 90, 2) := by decide +kernel
theorem dX4_wearBy_3 : decode cX4_wearBy 3 = .ok (.aload_n 0, 1) := by decide +kernel
theorem dX4_wearBy_4 : decode cX4_wearBy 4 = .ok (.getfield 18, 3) := by decide +kernel
theorem dX4_wearBy_7 : decode cX4_wearBy 7 = .ok (.iload_n 1, 1) := by decide +kernel
theorem dX4_wearBy_8 : decode cX4_wearBy 8 = .ok (.sipush 200, 3) := by decide +kernel
theorem dX4_wearBy_11 : decode cX4_wearBy 11 = .ok (.idiv, 1) := by decide +kernel
theorem dX4_wearBy_12 : decode cX4_wearBy 12 = .ok (.iadd, 1) := by decide +kernel
theorem dX4_wearBy_13 : decode cX4_wearBy 13 = .ok (.invokestatic 21, 3) := by decide +kernel
theorem dX4_wearBy_16 : decode cX4_wearBy 16 = .ok (.putfield 18, 3) := by decide +kernel
theorem dX4_wearBy_19 : decode cX4_wearBy 19 = .ok (.return_, 1) := by decide +kernel
theorem dX4_copyStamp_0 : decode cX4_copyStamp 0 = .ok (.aload_n 0, 1) := by decide +kernel
theorem dX4_copyStamp_1 : decode cX4_copyStamp 1 = .ok (.aload_n 1, 1) := by decide +kernel
theorem dX4_copyStamp_2 : decode cX4_copyStamp 2 = .ok (.getfield 9, 3) := by decide +kernel
theorem dX4_copyStamp_5 : decode cX4_copyStamp 5 = .ok (.putfield 9, 3) := by decide +kernel
theorem dX4_copyStamp_8 : decode cX4_copyStamp 8 = .ok (.aload_n 0, 1) := by decide +kernel
theorem dX4_copyStamp_9 : decode cX4_copyStamp 9 = .ok (.aload_n 1, 1) := by decide +kernel
theorem dX4_copyStamp_10 : decode cX4_copyStamp 10 = .ok (.getfield 15, 3) := by decide +kernel
theorem dX4_copyStamp_13 : decode cX4_copyStamp 13 = .ok (.putfield 15, 3) := by decide +kernel
theorem dX4_copyStamp_16 : decode cX4_copyStamp 16 = .ok (.aload_n 0, 1) := by decide +kernel
theorem dX4_copyStamp_17 : decode cX4_copyStamp 17 = .ok (.aload_n 1, 1) := by decide +kernel
theorem dX4_copyStamp_18 : decode cX4_copyStamp 18 = .ok (.getfield 18, 3) := by decide +kernel
theorem dX4_copyStamp_21 : decode cX4_copyStamp 21 = .ok (.putfield 18, 3) := by decide +kernel
theorem dX4_copyStamp_24 : decode cX4_copyStamp 24 = .ok (.return_, 1) := by decide +kernel
theorem dX5_init_0 : decode cX5_init 0 = .ok (.aload_n 0, 1) := by decide +kernel
theorem dX5_init_1 : decode cX5_init 1 = .ok (.invokespecial 3, 3) := by decide +kernel
theorem dX5_init_4 : decode cX5_init 4 = .ok (.aload_n 0, 1) := by decide +kernel
theorem dX5_init_5 : decode cX5_init 5 = .ok (.bipush 24, 2) := by decide +kernel
theorem dX5_init_7 : decode cX5_init 7 = .ok (.newarray .int, 2) := by decide +kernel
theorem dX5_init_9 : decode cX5_init 9 = .ok (.putfield 9, 3) := by decide +kernel
theorem dX5_init_12 : decode cX5_init 12 = .ok (.iconst 0, 1) := by decide +kernel
theorem dX5_init_13 : decode cX5_init 13 = .ok (.istore_n 1, 1) := by decide +kernel
theorem dX5_init_14 : decode cX5_init 14 = .ok (.iload_n 1, 1) := by decide +kernel
theorem dX5_init_15 : decode cX5_init 15 = .ok (.bipush 24, 2) := by decide +kernel
theorem dX5_init_17 : decode cX5_init 17 = .ok (.if_icmp .ge 18, 3) := by decide +kernel
theorem dX5_init_20 : decode cX5_init 20 = .ok (.aload_n 0, 1) := by decide +kernel
theorem dX5_init_21 : decode cX5_init 21 = .ok (.getfield 9, 3) := by decide +kernel
theorem dX5_init_24 : decode cX5_init 24 = .ok (.iload_n 1, 1) := by decide +kernel
theorem dX5_init_25 : decode cX5_init 25 = .ok (.sipush 200, 3) := by decide +kernel
theorem dX5_init_28 : decode cX5_init 28 = .ok (.iastore, 1) := by decide +kernel
theorem dX5_init_29 : decode cX5_init 29 = .ok (.iinc 1 1, 3) := by decide +kernel
theorem dX5_init_32 : decode cX5_init 32 = .ok (.goto (-18), 3) := by decide +kernel
theorem dX5_init_35 : decode cX5_init 35 = .ok (.aload_n 0, 1) := by decide +kernel
theorem dX5_init_36 : decode cX5_init 36 = .ok (.iconst 4, 1) := by decide +kernel
theorem dX5_init_37 : decode cX5_init 37 = .ok (.anewarray 15, 3) := by decide +kernel
theorem dX5_init_40 : decode cX5_init 40 = .ok (.putfield 17, 3) := by decide +kernel
theorem dX5_init_43 : decode cX5_init 43 = .ok (.iconst 0, 1) := by decide +kernel
theorem dX5_init_44 : decode cX5_init 44 = .ok (.istore_n 1, 1) := by decide +kernel
theorem dX5_init_45 : decode cX5_init 45 = .ok (.iload_n 1, 1) := by decide +kernel
theorem dX5_init_46 : decode cX5_init 46 = .ok (.iconst 4, 1) := by decide +kernel
theorem dX5_init_47 : decode cX5_init 47 = .ok (.if_icmp .ge 22, 3) := by decide +kernel
theorem dX5_init_50 : decode cX5_init 50 = .ok (.aload_n 0, 1) := by decide +kernel
theorem dX5_init_51 : decode cX5_init 51 = .ok (.getfield 17, 3) := by decide +kernel
theorem dX5_init_54 : decode cX5_init 54 = .ok (.iload_n 1, 1) := by decide +kernel
theorem dX5_init_55 : decode cX5_init 55 = .ok (.new 15, 3) := by decide +kernel
theorem dX5_init_58 : decode cX5_init 58 = .ok (.dup, 1) := by decide +kernel
theorem dX5_init_59 : decode cX5_init 59 = .ok (.invokespecial 21, 3) := by decide +kernel
theorem dX5_init_62 : decode cX5_init 62 = .ok (.aastore, 1) := by decide +kernel
theorem dX5_init_63 : decode cX5_init 63 = .ok (.iinc 1 1, 3) := by decide +kernel
theorem dX5_init_66 : decode cX5_init 66 = .ok (.goto (-21), 3) := by decide +kernel
theorem dX5_init_69 : decode cX5_init 69 = .ok (.aload_n 0, 1) := by decide +kernel
theorem dX5_init_70 : decode cX5_init 70 = .ok (.new 22, 3) := by decide +kernel
theorem dX5_init_73 : decode cX5_init 73 = .ok (.dup, 1) := by decide +kernel
theorem dX5_init_74 : decode cX5_init 74 = .ok (.invokespecial 24, 3) := by decide +kernel
theorem dX5_init_77 : decode cX5_init 77 = .ok (.putfield 25, 3) := by decide +kernel
theorem dX5_init_80 : decode cX5_init 80 = .ok (.aload_n 0, 1) := by decide +kernel
theorem dX5_init_81 : decode cX5_init 81 = .ok (.iconst 3, 1) := by decide +kernel
theorem dX5_init_82 : decode cX5_init 82 = .ok (.anewarray 29, 3) := by decide +kernel
theorem dX5_init_85 : decode cX5_init 85 = .ok (.putfield 31, 3) := by decide +kernel
theorem dX5_init_88 : decode cX5_init 88 = .ok (.iconst 0, 1) := by decide +kernel
theorem dX5_init_89 : decode cX5_init 89 = .ok (.istore_n 1, 1) := by decide +kernel
theorem dX5_init_90 : decode cX5_init 90 = .ok (.iload_n 1, 1) := by decide +kernel
theorem dX5_init_91 : decode cX5_init 91 = .ok (.iconst 3, 1) := by decide +kernel
theorem dX5_init_92 : decode cX5_init 92 = .ok (.if_icmp .ge 22, 3) := by decide +kernel
theorem dX5_init_95 : decode cX5_init 95 = .ok (.aload_n 0, 1) := by decide +kernel
theorem dX5_init_96 : decode cX5_init 96 = .ok (.getfield 31, 3) := by decide +kernel
theorem dX5_init_99 : decode cX5_init 99 = .ok (.iload_n 1, 1) := by decide +kernel
theorem dX5_init_100 : decode cX5_init 100 = .ok (.new 29, 3) := by decide +kernel
theorem dX5_init_103 : decode cX5_init 103 = .ok (.dup, 1) := by decide +kernel
theorem dX5_init_104 : decode cX5_init 104 = .ok (.invokespecial 35, 3) := by decide +kernel
theorem dX5_init_107 : decode cX5_init 107 = .ok (.aastore, 1) := by decide +kernel
theorem dX5_init_108 : decode cX5_init 108 = .ok (.iinc 1 1, 3) := by decide +kernel
theorem dX5_init_111 : decode cX5_init 111 = .ok (.goto (-21), 3) := by decide +kernel
theorem dX5_init_114 : decode cX5_init 114 = .ok (.aload_n 0, 1) := by decide +kernel
theorem dX5_init_115 : decode cX5_init 115 = .ok (.new 29, 3) := by decide +kernel
theorem dX5_init_118 : decode cX5_init 118 = .ok (.dup, 1) := by decide +kernel
theorem dX5_init_119 : decode cX5_init 119 = .ok (.invokespecial 35, 3) := by decide +kernel
theorem dX5_init_122 : decode cX5_init 122 = .ok (.putfield 36, 3) := by decide +kernel
theorem dX5_init_125 : decode cX5_init 125 = .ok (.aload_n 0, 1) := by decide +kernel
theorem dX5_init_126 : decode cX5_init 126 = .ok (.new 29, 3) := by decide +kernel
theorem dX5_init_129 : decode cX5_init 129 = .ok (.dup, 1) := by decide +kernel
theorem dX5_init_130 : decode cX5_init 130 = .ok (.invokespecial 35, 3) := by decide +kernel
theorem dX5_init_133 : decode cX5_init 133 = .ok (.putfield 40, 3) := by decide +kernel
theorem dX5_init_136 : decode cX5_init 136 = .ok (.aload_n 0, 1) := by decide +kernel
theorem dX5_init_137 : decode cX5_init 137 = .ok (.sipush 10000, 3) := by decide +kernel
theorem dX5_init_140 : decode cX5_init 140 = .ok (.putfield 43, 3) := by decide +kernel
theorem dX5_init_143 : decode cX5_init 143 = .ok (.aload_n 0, 1) := by decide +kernel
theorem dX5_init_144 : decode cX5_init 144 = .ok (.iconst 5, 1) := by decide +kernel
theorem dX5_init_145 : decode cX5_init 145 = .ok (.putfield 47, 3) := by decide +kernel
theorem dX5_init_148 : decode cX5_init 148 = .ok (.return_, 1) := by decide +kernel
theorem dX5_tellOfWorks_0 : decode cX5_tellOfWorks 0 = .ok (.iload_n 1, 1) := by decide +kernel
theorem dX5_tellOfWorks_1 : decode cX5_tellOfWorks 1 = .ok (.tableswitch 150 0 12 #[67, 72, 77, 82, 87, 95, 103, 108, 116, 124, 129, 137, 145], 67) := by decide +kernel
theorem dX5_tellOfWorks_68 : decode cX5_tellOfWorks 68 = .ok (.aload_n 0, 1) := by decide +kernel
theorem dX5_tellOfWorks_69 : decode cX5_tellOfWorks 69 = .ok (.getfield 50, 3) := by decide +kernel
theorem dX5_tellOfWorks_72 : decode cX5_tellOfWorks 72 = .ok (.ireturn, 1) := by decide +kernel
theorem dX5_tellOfWorks_73 : decode cX5_tellOfWorks 73 = .ok (.aload_n 0, 1) := by decide +kernel
theorem dX5_tellOfWorks_74 : decode cX5_tellOfWorks 74 = .ok (.getfield 43, 3) := by decide +kernel
theorem dX5_tellOfWorks_77 : decode cX5_tellOfWorks 77 = .ok (.ireturn, 1) := by decide +kernel
theorem dX5_tellOfWorks_78 : decode cX5_tellOfWorks 78 = .ok (.aload_n 0, 1) := by decide +kernel
theorem dX5_tellOfWorks_79 : decode cX5_tellOfWorks 79 = .ok (.getfield 47, 3) := by decide +kernel
theorem dX5_tellOfWorks_82 : decode cX5_tellOfWorks 82 = .ok (.ireturn, 1) := by decide +kernel
theorem dX5_tellOfWorks_83 : decode cX5_tellOfWorks 83 = .ok (.aload_n 0, 1) := by decide +kernel
theorem dX5_tellOfWorks_84 : decode cX5_tellOfWorks 84 = .ok (.getfield 53, 3) := by decide +kernel
theorem dX5_tellOfWorks_87 : decode cX5_tellOfWorks 87 = .ok (.ireturn, 1) := by decide +kernel
theorem dX5_tellOfWorks_88 : decode cX5_tellOfWorks 88 = .ok (.aload_n 0, 1) := by decide +kernel
theorem dX5_tellOfWorks_89 : decode cX5_tellOfWorks 89 = .ok (.getfield 25, 3) := by decide +kernel
theorem dX5_tellOfWorks_92 : decode cX5_tellOfWorks 92 = .ok (.getfield 56, 3) := by decide +kernel
theorem dX5_tellOfWorks_95 : decode cX5_tellOfWorks 95 = .ok (.ireturn, 1) := by decide +kernel
theorem dX5_tellOfWorks_96 : decode cX5_tellOfWorks 96 = .ok (.aload_n 0, 1) := by decide +kernel
theorem dX5_tellOfWorks_97 : decode cX5_tellOfWorks 97 = .ok (.getfield 25, 3) := by decide +kernel
theorem dX5_tellOfWorks_100 : decode cX5_tellOfWorks 100 = .ok (.invokevirtual 59, 3) := by decide +kernel
theorem dX5_tellOfWorks_103 : decode cX5_tellOfWorks 103 = .ok (.ireturn, 1) := by decide +kernel
theorem dX5_tellOfWorks_104 : decode cX5_tellOfWorks 104 = .ok (.aload_n 0, 1) := by decide +kernel
theorem dX5_tellOfWorks_105 : decode cX5_tellOfWorks 105 = .ok (.invokevirtual 63, 3) := by decide +kernel
theorem dX5_tellOfWorks_108 : decode cX5_tellOfWorks 108 = .ok (.ireturn, 1) := by decide +kernel
theorem dX5_tellOfWorks_109 : decode cX5_tellOfWorks 109 = .ok (.aload_n 0, 1) := by decide +kernel
theorem dX5_tellOfWorks_110 : decode cX5_tellOfWorks 110 = .ok (.getfield 36, 3) := by decide +kernel
theorem dX5_tellOfWorks_113 : decode cX5_tellOfWorks 113 = .ok (.getfield 66, 3) := by decide +kernel
theorem dX5_tellOfWorks_116 : decode cX5_tellOfWorks 116 = .ok (.ireturn, 1) := by decide +kernel
theorem dX5_tellOfWorks_117 : decode cX5_tellOfWorks 117 = .ok (.aload_n 0, 1) := by decide +kernel
theorem dX5_tellOfWorks_118 : decode cX5_tellOfWorks 118 = .ok (.getfield 36, 3) := by decide +kernel
theorem dX5_tellOfWorks_121 : decode cX5_tellOfWorks 121 = .ok (.getfield 69, 3) := by decide +kernel
theorem dX5_tellOfWorks_124 : decode cX5_tellOfWorks 124 = .ok (.ireturn, 1) := by decide +kernel
theorem dX5_tellOfWorks_125 : decode cX5_tellOfWorks 125 = .ok (.aload_n 0, 1) := by decide +kernel
theorem dX5_tellOfWorks_126 : decode cX5_tellOfWorks 126 = .ok (.getfield 72, 3) := by decide +kernel
theorem dX5_tellOfWorks_129 : decode cX5_tellOfWorks 129 = .ok (.ireturn, 1) := by decide +kernel
theorem dX5_tellOfWorks_130 : decode cX5_tellOfWorks 130 = .ok (.aload_n 0, 1) := by decide +kernel
theorem dX5_tellOfWorks_131 : decode cX5_tellOfWorks 131 = .ok (.getfield 40, 3) := by decide +kernel
theorem dX5_tellOfWorks_134 : decode cX5_tellOfWorks 134 = .ok (.getfield 69, 3) := by decide +kernel
theorem dX5_tellOfWorks_137 : decode cX5_tellOfWorks 137 = .ok (.ireturn, 1) := by decide +kernel
theorem dX5_tellOfWorks_138 : decode cX5_tellOfWorks 138 = .ok (.aload_n 0, 1) := by decide +kernel
theorem dX5_tellOfWorks_139 : decode cX5_tellOfWorks 139 = .ok (.getfield 40, 3) := by decide +kernel
theorem dX5_tellOfWorks_142 : decode cX5_tellOfWorks 142 = .ok (.getfield 66, 3) := by decide +kernel
theorem dX5_tellOfWorks_145 : decode cX5_tellOfWorks 145 = .ok (.ireturn, 1) := by decide +kernel
theorem dX5_tellOfWorks_146 : decode cX5_tellOfWorks 146 = .ok (.aload_n 0, 1) := by decide +kernel
theorem dX5_tellOfWorks_147 : decode cX5_tellOfWorks 147 = .ok (.getfield 75, 3) := by decide +kernel
theorem dX5_tellOfWorks_150 : decode cX5_tellOfWorks 150 = .ok (.ireturn, 1) := by decide +kernel
theorem dX5_tellOfWorks_151 : decode cX5_tellOfWorks 151 = .ok (.aload_n 0, 1) := by decide +kernel
theorem dX5_tellOfWorks_152 : decode cX5_tellOfWorks 152 = .ok (.invokevirtual 78, 3) := by decide +kernel
theorem dX5_tellOfWorks_155 : decode cX5_tellOfWorks 155 = .ok (.ireturn, 1) := by decide +kernel
theorem dX5_loadOfWheel_0 : decode cX5_loadOfWheel 0 = .ok (.bipush 20, 2) := by decide +kernel
theorem dX5_loadOfWheel_2 : decode cX5_loadOfWheel 2 = .ok (.istore_n 1, 1) := by decide +kernel
theorem dX5_loadOfWheel_3 : decode cX5_loadOfWheel 3 = .ok (.iconst 0, 1) := by decide +kernel
theorem dX5_loadOfWheel_4 : decode cX5_loadOfWheel 4 = .ok (.istore_n 2, 1) := by decide +kernel
theorem dX5_loadOfWheel_5 : decode cX5_loadOfWheel 5 = .ok (.iload_n 2, 1) := by decide +kernel
theorem dX5_loadOfWheel_6 : decode cX5_loadOfWheel 6 = .ok (.aload_n 0, 1) := by decide +kernel
theorem dX5_loadOfWheel_7 : decode cX5_loadOfWheel 7 = .ok (.getfield 53, 3) := by decide +kernel
theorem dX5_loadOfWheel_10 : decode cX5_loadOfWheel 10 = .ok (.if_icmp .ge 21, 3) := by decide +kernel
theorem dX5_loadOfWheel_13 : decode cX5_loadOfWheel 13 = .ok (.iload_n 1, 1) := by decide +kernel
theorem dX5_loadOfWheel_14 : decode cX5_loadOfWheel 14 = .ok (.aload_n 0, 1) := by decide +kernel
theorem dX5_loadOfWheel_15 : decode cX5_loadOfWheel 15 = .ok (.getfield 17, 3) := by decide +kernel
theorem dX5_loadOfWheel_18 : decode cX5_loadOfWheel 18 = .ok (.iload_n 2, 1) := by decide +kernel
theorem dX5_loadOfWheel_19 : decode cX5_loadOfWheel 19 = .ok (.aaload, 1) := by decide +kernel
theorem dX5_loadOfWheel_20 : decode cX5_loadOfWheel 20 = .ok (.invokevirtual 81, 3) := by decide +kernel
theorem dX5_loadOfWheel_23 : decode cX5_loadOfWheel 23 = .ok (.iadd, 1) := by decide +kernel
theorem dX5_loadOfWheel_24 : decode cX5_loadOfWheel 24 = .ok (.istore_n 1, 1) := by decide +kernel
theorem dX5_loadOfWheel_25 : decode cX5_loadOfWheel 25 = .ok (.iinc 2 1, 3) := by decide +kernel
theorem dX5_loadOfWheel_28 : decode cX5_loadOfWheel 28 = .ok (.goto (-23), 3) := by decide +kernel
theorem dX5_loadOfWheel_31 : decode cX5_loadOfWheel 31 = .ok (.iload_n 1, 1) := by decide +kernel
theorem dX5_loadOfWheel_32 : decode cX5_loadOfWheel 32 = .ok (.ireturn, 1) := by decide +kernel
theorem dX5_tinOfBoxes_0 : decode cX5_tinOfBoxes 0 = .ok (.iconst 0, 1) := by decide +kernel
theorem dX5_tinOfBoxes_1 : decode cX5_tinOfBoxes 1 = .ok (.istore_n 1, 1) := by decide +kernel
theorem dX5_tinOfBoxes_2 : decode cX5_tinOfBoxes 2 = .ok (.iconst 0, 1) := by decide +kernel
theorem dX5_tinOfBoxes_3 : decode cX5_tinOfBoxes 3 = .ok (.istore_n 2, 1) := by decide +kernel
theorem dX5_tinOfBoxes_4 : decode cX5_tinOfBoxes 4 = .ok (.iload_n 2, 1) := by decide +kernel
theorem dX5_tinOfBoxes_5 : decode cX5_tinOfBoxes 5 = .ok (.aload_n 0, 1) := by decide +kernel
theorem dX5_tinOfBoxes_6 : decode cX5_tinOfBoxes 6 = .ok (.getfield 53, 3) := by decide +kernel
theorem dX5_tinOfBoxes_9 : decode cX5_tinOfBoxes 9 = .ok (.if_icmp .ge 21, 3) := by decide +kernel
theorem dX5_tinOfBoxes_12 : decode cX5_tinOfBoxes 12 = .ok (.iload_n 1, 1) := by decide +kernel
theorem dX5_tinOfBoxes_13 : decode cX5_tinOfBoxes 13 = .ok (.aload_n 0, 1) := by decide +kernel
theorem dX5_tinOfBoxes_14 : decode cX5_tinOfBoxes 14 = .ok (.getfield 17, 3) := by decide +kernel
theorem dX5_tinOfBoxes_17 : decode cX5_tinOfBoxes 17 = .ok (.iload_n 2, 1) := by decide +kernel
theorem dX5_tinOfBoxes_18 : decode cX5_tinOfBoxes 18 = .ok (.aaload, 1) := by decide +kernel
theorem dX5_tinOfBoxes_19 : decode cX5_tinOfBoxes 19 = .ok (.invokevirtual 84, 3) := by decide +kernel
theorem dX5_tinOfBoxes_22 : decode cX5_tinOfBoxes 22 = .ok (.iadd, 1) := by decide +kernel
theorem dX5_tinOfBoxes_23 : decode cX5_tinOfBoxes 23 = .ok (.istore_n 1, 1) := by decide +kernel
theorem dX5_tinOfBoxes_24 : decode cX5_tinOfBoxes 24 = .ok (.iinc 2 1, 3) := by decide +kernel
theorem dX5_tinOfBoxes_27 : decode cX5_tinOfBoxes 27 = .ok (.goto (-23), 3) := by decide +kernel
theorem dX5_tinOfBoxes_30 : decode cX5_tinOfBoxes 30 = .ok (.iload_n 1, 1) := by decide +kernel
theorem dX5_tinOfBoxes_31 : decode cX5_tinOfBoxes 31 = .ok (.ireturn, 1) := by decide +kernel
theorem dX5_tinOfBuddles_0 : decode cX5_tinOfBuddles 0 = .ok (.iconst 0, 1) := by decide +kernel
theorem dX5_tinOfBuddles_1 : decode cX5_tinOfBuddles 1 = .ok (.istore_n 1, 1) := by decide +kernel
theorem dX5_tinOfBuddles_2 : decode cX5_tinOfBuddles 2 = .ok (.iconst 0, 1) := by decide +kernel
theorem dX5_tinOfBuddles_3 : decode cX5_tinOfBuddles 3 = .ok (.istore_n 2, 1) := by decide +kernel
theorem dX5_tinOfBuddles_4 : decode cX5_tinOfBuddles 4 = .ok (.iload_n 2, 1) := by decide +kernel
theorem dX5_tinOfBuddles_5 : decode cX5_tinOfBuddles 5 = .ok (.iconst 3, 1) := by decide +kernel
theorem dX5_tinOfBuddles_6 : decode cX5_tinOfBuddles 6 = .ok (.if_icmp .ge 21, 3) := by decide +kernel
theorem dX5_tinOfBuddles_9 : decode cX5_tinOfBuddles 9 = .ok (.iload_n 1, 1) := by decide +kernel
theorem dX5_tinOfBuddles_10 : decode cX5_tinOfBuddles 10 = .ok (.aload_n 0, 1) := by decide +kernel
theorem dX5_tinOfBuddles_11 : decode cX5_tinOfBuddles 11 = .ok (.getfield 31, 3) := by decide +kernel
theorem dX5_tinOfBuddles_14 : decode cX5_tinOfBuddles 14 = .ok (.iload_n 2, 1) := by decide +kernel
theorem dX5_tinOfBuddles_15 : decode cX5_tinOfBuddles 15 = .ok (.aaload, 1) := by decide +kernel
theorem dX5_tinOfBuddles_16 : decode cX5_tinOfBuddles 16 = .ok (.getfield 69, 3) := by decide +kernel
theorem dX5_tinOfBuddles_19 : decode cX5_tinOfBuddles 19 = .ok (.iadd, 1) := by decide +kernel
theorem dX5_tinOfBuddles_20 : decode cX5_tinOfBuddles 20 = .ok (.istore_n 1, 1) := by decide +kernel
theorem dX5_tinOfBuddles_21 : decode cX5_tinOfBuddles 21 = .ok (.iinc 2 1, 3) := by decide +kernel
theorem dX5_tinOfBuddles_24 : decode cX5_tinOfBuddles 24 = .ok (.goto (-20), 3) := by decide +kernel
theorem dX5_tinOfBuddles_27 : decode cX5_tinOfBuddles 27 = .ok (.iload_n 1, 1) := by decide +kernel
theorem dX5_tinOfBuddles_28 : decode cX5_tinOfBuddles 28 = .ok (.ireturn, 1) := by decide +kernel
theorem dX5_passHours_0 : decode cX5_passHours 0 = .ok (.iconst 0, 1) := by decide +kernel
theorem dX5_passHours_1 : decode cX5_passHours 1 = .ok (.istore_n 2, 1) := by decide +kernel
theorem dX5_passHours_2 : decode cX5_passHours 2 = .ok (.iconst 0, 1) := by decide +kernel
theorem dX5_passHours_3 : decode cX5_passHours 3 = .ok (.istore_n 3, 1) := by decide +kernel
theorem dX5_passHours_4 : decode cX5_passHours 4 = .ok (.iload_n 3, 1) := by decide +kernel
theorem dX5_passHours_5 : decode cX5_passHours 5 = .ok (.iload_n 1, 1) := by decide +kernel
theorem dX5_passHours_6 : decode cX5_passHours 6 = .ok (.if_icmp .ge 16, 3) := by decide +kernel
theorem dX5_passHours_9 : decode cX5_passHours 9 = .ok (.iload_n 2, 1) := by decide +kernel
theorem dX5_passHours_10 : decode cX5_passHours 10 = .ok (.aload_n 0, 1) := by decide +kernel
theorem dX5_passHours_11 : decode cX5_passHours 11 = .ok (.invokevirtual 87, 3) := by decide +kernel
theorem dX5_passHours_14 : decode cX5_passHours 14 = .ok (.iadd, 1) := by decide +kernel
theorem dX5_passHours_15 : decode cX5_passHours 15 = .ok (.istore_n 2, 1) := by decide +kernel
theorem dX5_passHours_16 : decode cX5_passHours 16 = .ok (.iinc 3 1, 3) := by decide +kernel
theorem dX5_passHours_19 : decode cX5_passHours 19 = .ok (.goto (-15), 3) := by decide +kernel
theorem dX5_passHours_22 : decode cX5_passHours 22 = .ok (.iload_n 2, 1) := by decide +kernel
theorem dX5_passHours_23 : decode cX5_passHours 23 = .ok (.ireturn, 1) := by decide +kernel
theorem dX5_passHour_0 : decode cX5_passHour 0 = .ok (.aload_n 0, 1) := by decide +kernel
theorem dX5_passHour_1 : decode cX5_passHour 1 = .ok (.invokevirtual 90, 3) := by decide +kernel
theorem dX5_passHour_4 : decode cX5_passHour 4 = .ok (.istore_n 1, 1) := by decide +kernel
theorem dX5_passHour_5 : decode cX5_passHour 5 = .ok (.iload_n 1, 1) := by decide +kernel
theorem dX5_passHour_6 : decode cX5_passHour 6 = .ok (.bipush 10, 2) := by decide +kernel
theorem dX5_passHour_8 : decode cX5_passHour 8 = .ok (.imul, 1) := by decide +kernel
theorem dX5_passHour_9 : decode cX5_passHour 9 = .ok (.iconst 1, 1) := by decide +kernel
theorem dX5_passHour_10 : decode cX5_passHour 10 = .ok (.aload_n 0, 1) := by decide +kernel
theorem dX5_passHour_11 : decode cX5_passHour 11 = .ok (.invokevirtual 63, 3) := by decide +kernel
theorem dX5_passHour_14 : decode cX5_passHour 14 = .ok (.invokestatic 93, 3) := by decide +kernel
theorem dX5_passHour_17 : decode cX5_passHour 17 = .ok (.idiv, 1) := by decide +kernel
theorem dX5_passHour_18 : decode cX5_passHour 18 = .ok (.istore_n 2, 1) := by decide +kernel
theorem dX5_passHour_19 : decode cX5_passHour 19 = .ok (.iconst 0, 1) := by decide +kernel
theorem dX5_passHour_20 : decode cX5_passHour 20 = .ok (.istore_n 3, 1) := by decide +kernel
theorem dX5_passHour_21 : decode cX5_passHour 21 = .ok (.iload_n 3, 1) := by decide +kernel
theorem dX5_passHour_22 : decode cX5_passHour 22 = .ok (.aload_n 0, 1) := by decide +kernel
theorem dX5_passHour_23 : decode cX5_passHour 23 = .ok (.getfield 53, 3) := by decide +kernel
theorem dX5_passHour_26 : decode cX5_passHour 26 = .ok (.if_icmp .ge 21, 3) := by decide +kernel
theorem dX5_passHour_29 : decode cX5_passHour 29 = .ok (.aload_n 0, 1) := by decide +kernel
theorem dX5_passHour_30 : decode cX5_passHour 30 = .ok (.aload_n 0, 1) := by decide +kernel
theorem dX5_passHour_31 : decode cX5_passHour 31 = .ok (.getfield 17, 3) := by decide +kernel
theorem dX5_passHour_34 : decode cX5_passHour 34 = .ok (.iload_n 3, 1) := by decide +kernel
theorem dX5_passHour_35 : decode cX5_passHour 35 = .ok (.aaload, 1) := by decide +kernel
theorem dX5_passHour_36 : decode cX5_passHour 36 = .ok (.iload_n 1, 1) := by decide +kernel
theorem dX5_passHour_37 : decode cX5_passHour 37 = .ok (.iload_n 2, 1) := by decide +kernel
theorem dX5_passHour_38 : decode cX5_passHour 38 = .ok (.invokevirtual 99, 3) := by decide +kernel
theorem dX5_passHour_41 : decode cX5_passHour 41 = .ok (.iinc 3 1, 3) := by decide +kernel
theorem dX5_passHour_44 : decode cX5_passHour 44 = .ok (.goto (-23), 3) := by decide +kernel
theorem dX5_passHour_47 : decode cX5_passHour 47 = .ok (.aload_n 0, 1) := by decide +kernel
theorem dX5_passHour_48 : decode cX5_passHour 48 = .ok (.dup, 1) := by decide +kernel
theorem dX5_passHour_49 : decode cX5_passHour 49 = .ok (.getfield 50, 3) := by decide +kernel
theorem dX5_passHour_52 : decode cX5_passHour 52 = .ok (.iconst 1, 1) := by decide +kernel
theorem dX5_passHour_53 : decode cX5_passHour 53 = .ok (.iadd, 1) := by decide +kernel
theorem dX5_passHour_54 : decode cX5_passHour 54 = .ok (.putfield 50, 3) := by decide +kernel
theorem dX5_passHour_57 : decode cX5_passHour 57 = .ok (.iload_n 2, 1) := by decide +kernel
theorem dX5_passHour_58 : decode cX5_passHour 58 = .ok (.ireturn, 1) := by decide +kernel
theorem dX5_takeWater_0 : decode cX5_takeWater 0 = .ok (.sipush 20000, 3) := by decide +kernel
theorem dX5_takeWater_3 : decode cX5_takeWater 3 = .ok (.aload_n 0, 1) := by decide +kernel
theorem dX5_takeWater_4 : decode cX5_takeWater 4 = .ok (.getfield 43, 3) := by decide +kernel
theorem dX5_takeWater_7 : decode cX5_takeWater 7 = .ok (.aload_n 0, 1) := by decide +kernel
theorem dX5_takeWater_8 : decode cX5_takeWater 8 = .ok (.getfield 9, 3) := by decide +kernel
theorem dX5_takeWater_11 : decode cX5_takeWater 11 = .ok (.aload_n 0, 1) := by decide +kernel
theorem dX5_takeWater_12 : decode cX5_takeWater 12 = .ok (.getfield 50, 3) := by decide +kernel
theorem dX5_takeWater_15 : decode cX5_takeWater 15 = .ok (.bipush 24, 2) := by decide +kernel
theorem dX5_takeWater_17 : decode cX5_takeWater 17 = .ok (.invokestatic 103, 3) := by decide +kernel
theorem dX5_takeWater_20 : decode cX5_takeWater 20 = .ok (.iaload, 1) := by decide +kernel
theorem dX5_takeWater_21 : decode cX5_takeWater 21 = .ok (.iadd, 1) := by decide +kernel
theorem dX5_takeWater_22 : decode cX5_takeWater 22 = .ok (.invokestatic 106, 3) := by decide +kernel
theorem dX5_takeWater_25 : decode cX5_takeWater 25 = .ok (.istore_n 1, 1) := by decide +kernel
theorem dX5_takeWater_26 : decode cX5_takeWater 26 = .ok (.iload_n 1, 1) := by decide +kernel
theorem dX5_takeWater_27 : decode cX5_takeWater 27 = .ok (.aload_n 0, 1) := by decide +kernel
theorem dX5_takeWater_28 : decode cX5_takeWater 28 = .ok (.getfield 47, 3) := by decide +kernel
theorem dX5_takeWater_31 : decode cX5_takeWater 31 = .ok (.bipush 40, 2) := by decide +kernel
theorem dX5_takeWater_33 : decode cX5_takeWater 33 = .ok (.imul, 1) := by decide +kernel
theorem dX5_takeWater_34 : decode cX5_takeWater 34 = .ok (.invokestatic 106, 3) := by decide +kernel
theorem dX5_takeWater_37 : decode cX5_takeWater 37 = .ok (.istore_n 2, 1) := by decide +kernel
theorem dX5_takeWater_38 : decode cX5_takeWater 38 = .ok (.aload_n 0, 1) := by decide +kernel
theorem dX5_takeWater_39 : decode cX5_takeWater 39 = .ok (.iload_n 1, 1) := by decide +kernel
theorem dX5_takeWater_40 : decode cX5_takeWater 40 = .ok (.iload_n 2, 1) := by decide +kernel
theorem dX5_takeWater_41 : decode cX5_takeWater 41 = .ok (.isub, 1) := by decide +kernel
theorem dX5_takeWater_42 : decode cX5_takeWater 42 = .ok (.putfield 43, 3) := by decide +kernel
theorem dX5_takeWater_45 : decode cX5_takeWater 45 = .ok (.iload_n 2, 1) := by decide +kernel
theorem dX5_takeWater_46 : decode cX5_takeWater 46 = .ok (.ireturn, 1) := by decide +kernel
theorem dX5_workBox_0 : decode cX5_workBox 0 = .ok (.aload_n 1, 1) := by decide +kernel
theorem dX5_workBox_1 : decode cX5_workBox 1 = .ok (.aload_n 0, 1) := by decide +kernel
theorem dX5_workBox_2 : decode cX5_workBox 2 = .ok (.getfield 25, 3) := by decide +kernel
theorem dX5_workBox_5 : decode cX5_workBox 5 = .ok (.aload_n 1, 1) := by decide +kernel
theorem dX5_workBox_6 : decode cX5_workBox 6 = .ok (.getfield 109, 3) := by decide +kernel
theorem dX5_workBox_9 : decode cX5_workBox 9 = .ok (.aload_n 1, 1) := by decide +kernel
theorem dX5_workBox_10 : decode cX5_workBox 10 = .ok (.getfield 112, 3) := by decide +kernel
theorem dX5_workBox_13 : decode cX5_workBox 13 = .ok (.aload_n 1, 1) := by decide +kernel
theorem dX5_workBox_14 : decode cX5_workBox 14 = .ok (.getfield 115, 3) := by decide +kernel
theorem dX5_workBox_17 : decode cX5_workBox 17 = .ok (.invokevirtual 118, 3) := by decide +kernel
theorem dX5_workBox_20 : decode cX5_workBox 20 = .ok (.putfield 115, 3) := by decide +kernel
theorem dX5_workBox_23 : decode cX5_workBox 23 = .ok (.aload_n 1, 1) := by decide +kernel
theorem dX5_workBox_24 : decode cX5_workBox 24 = .ok (.iload_n 3, 1) := by decide +kernel
theorem dX5_workBox_25 : decode cX5_workBox 25 = .ok (.invokevirtual 122, 3) := by decide +kernel
theorem dX5_workBox_28 : decode cX5_workBox 28 = .ok (.aload_n 0, 1) := by decide +kernel
theorem dX5_workBox_29 : decode cX5_workBox 29 = .ok (.dup, 1) := by decide +kernel
theorem dX5_workBox_30 : decode cX5_workBox 30 = .ok (.getfield 72, 3) := by decide +kernel
theorem dX5_workBox_33 : decode cX5_workBox 33 = .ok (.aload_n 1, 1) := by decide +kernel
theorem dX5_workBox_34 : decode cX5_workBox 34 = .ok (.invokevirtual 126, 3) := by decide +kernel
theorem dX5_workBox_37 : decode cX5_workBox 37 = .ok (.iadd, 1) := by decide +kernel
theorem dX5_workBox_38 : decode cX5_workBox 38 = .ok (.putfield 72, 3) := by decide +kernel
theorem dX5_workBox_41 : decode cX5_workBox 41 = .ok (.aload_n 1, 1) := by decide +kernel
theorem dX5_workBox_42 : decode cX5_workBox 42 = .ok (.aload_n 0, 1) := by decide +kernel
theorem dX5_workBox_43 : decode cX5_workBox 43 = .ok (.getfield 31, 3) := by decide +kernel
theorem dX5_workBox_46 : decode cX5_workBox 46 = .ok (.aload_n 1, 1) := by decide +kernel
theorem dX5_workBox_47 : decode cX5_workBox 47 = .ok (.getfield 129, 3) := by decide +kernel
theorem dX5_workBox_50 : decode cX5_workBox 50 = .ok (.iconst 3, 1) := by decide +kernel
theorem dX5_workBox_51 : decode cX5_workBox 51 = .ok (.invokestatic 103, 3) := by decide +kernel
theorem dX5_workBox_54 : decode cX5_workBox 54 = .ok (.aaload, 1) := by decide +kernel
theorem dX5_workBox_55 : decode cX5_workBox 55 = .ok (.iload_n 2, 1) := by decide +kernel
theorem dX5_workBox_56 : decode cX5_workBox 56 = .ok (.invokevirtual 132, 3) := by decide +kernel
theorem dX5_workBox_59 : decode cX5_workBox 59 = .ok (.aload_n 1, 1) := by decide +kernel
theorem dX5_workBox_60 : decode cX5_workBox 60 = .ok (.iload_n 3, 1) := by decide +kernel
theorem dX5_workBox_61 : decode cX5_workBox 61 = .ok (.invokevirtual 136, 3) := by decide +kernel
theorem dX5_workBox_64 : decode cX5_workBox 64 = .ok (.return_, 1) := by decide +kernel
theorem dX5_partByWater_0 : decode cX5_partByWater 0 = .ok (.aload_n 1, 1) := by decide +kernel
theorem dX5_partByWater_1 : decode cX5_partByWater 1 = .ok (.getfield 66, 3) := by decide +kernel
theorem dX5_partByWater_4 : decode cX5_partByWater 4 = .ok (.iload_n 2, 1) := by decide +kernel
theorem dX5_partByWater_5 : decode cX5_partByWater 5 = .ok (.invokestatic 139, 3) := by decide +kernel
theorem dX5_partByWater_8 : decode cX5_partByWater 8 = .ok (.istore_n 3, 1) := by decide +kernel
theorem dX5_partByWater_9 : decode cX5_partByWater 9 = .ok (.aload_n 1, 1) := by decide +kernel
theorem dX5_partByWater_10 : decode cX5_partByWater 10 = .ok (.getfield 69, 3) := by decide +kernel
theorem dX5_partByWater_13 : decode cX5_partByWater 13 = .ok (.iload_n 2, 1) := by decide +kernel
theorem dX5_partByWater_14 : decode cX5_partByWater 14 = .ok (.invokestatic 142, 3) := by decide +kernel
theorem dX5_partByWater_17 : decode cX5_partByWater 17 = .ok (.istore 4, 2) := by decide +kernel
theorem dX5_partByWater_19 : decode cX5_partByWater 19 = .ok (.aload_n 1, 1) := by decide +kernel
theorem dX5_partByWater_20 : decode cX5_partByWater 20 = .ok (.getfield 66, 3) := by decide +kernel
theorem dX5_partByWater_23 : decode cX5_partByWater 23 = .ok (.iload_n 3, 1) := by decide +kernel
theorem dX5_partByWater_24 : decode cX5_partByWater 24 = .ok (.isub, 1) := by decide +kernel
theorem dX5_partByWater_25 : decode cX5_partByWater 25 = .ok (.istore 5, 2) := by decide +kernel
theorem dX5_partByWater_27 : decode cX5_partByWater 27 = .ok (.aload_n 1, 1) := by decide +kernel
theorem dX5_partByWater_28 : decode cX5_partByWater 28 = .ok (.getfield 69, 3) := by decide +kernel
theorem dX5_partByWater_31 : decode cX5_partByWater 31 = .ok (.iload 4, 2) := by decide +kernel
theorem dX5_partByWater_33 : decode cX5_partByWater 33 = .ok (.isub, 1) := by decide +kernel
theorem dX5_partByWater_34 : decode cX5_partByWater 34 = .ok (.istore 6, 2) := by decide +kernel
theorem dX5_partByWater_36 : decode cX5_partByWater 36 = .ok (.iload 5, 2) := by decide +kernel
theorem dX5_partByWater_38 : decode cX5_partByWater 38 = .ok (.iconst 2, 1) := by decide +kernel
theorem dX5_partByWater_39 : decode cX5_partByWater 39 = .ok (.idiv, 1) := by decide +kernel
theorem dX5_partByWater_40 : decode cX5_partByWater 40 = .ok (.istore 7, 2) := by decide +kernel
theorem dX5_partByWater_42 : decode cX5_partByWater 42 = .ok (.iload 6, 2) := by decide +kernel
theorem dX5_partByWater_44 : decode cX5_partByWater 44 = .ok (.iconst 2, 1) := by decide +kernel
theorem dX5_partByWater_45 : decode cX5_partByWater 45 = .ok (.idiv, 1) := by decide +kernel
theorem dX5_partByWater_46 : decode cX5_partByWater 46 = .ok (.istore 8, 2) := by decide +kernel
theorem dX5_partByWater_48 : decode cX5_partByWater 48 = .ok (.aload_n 0, 1) := by decide +kernel
theorem dX5_partByWater_49 : decode cX5_partByWater 49 = .ok (.getfield 36, 3) := by decide +kernel
theorem dX5_partByWater_52 : decode cX5_partByWater 52 = .ok (.iload_n 3, 1) := by decide +kernel
theorem dX5_partByWater_53 : decode cX5_partByWater 53 = .ok (.iload 4, 2) := by decide +kernel
theorem dX5_partByWater_55 : decode cX5_partByWater 55 = .ok (.invokevirtual 145, 3) := by decide +kernel
theorem dX5_partByWater_58 : decode cX5_partByWater 58 = .ok (.iload 7, 2) := by decide +kernel
theorem dX5_partByWater_60 : decode cX5_partByWater 60 = .ok (.iload 8, 2) := by decide +kernel
theorem dX5_partByWater_62 : decode cX5_partByWater 62 = .ok (.iadd, 1) := by decide +kernel
theorem dX5_partByWater_63 : decode cX5_partByWater 63 = .ok (.ifCond .le 15, 3) := by decide +kernel
theorem dX5_partByWater_66 : decode cX5_partByWater 66 = .ok (.aload_n 0, 1) := by decide +kernel
theorem dX5_partByWater_67 : decode cX5_partByWater 67 = .ok (.getfield 25, 3) := by decide +kernel
theorem dX5_partByWater_70 : decode cX5_partByWater 70 = .ok (.iload 7, 2) := by decide +kernel
theorem dX5_partByWater_72 : decode cX5_partByWater 72 = .ok (.iload 8, 2) := by decide +kernel
theorem dX5_partByWater_74 : decode cX5_partByWater 74 = .ok (.iconst 1, 1) := by decide +kernel
theorem dX5_partByWater_75 : decode cX5_partByWater 75 = .ok (.invokevirtual 149, 3) := by decide +kernel
theorem dX5_partByWater_78 : decode cX5_partByWater 78 = .ok (.aload_n 0, 1) := by decide +kernel
theorem dX5_partByWater_79 : decode cX5_partByWater 79 = .ok (.getfield 40, 3) := by decide +kernel
theorem dX5_partByWater_82 : decode cX5_partByWater 82 = .ok (.iload 5, 2) := by decide +kernel
theorem dX5_partByWater_84 : decode cX5_partByWater 84 = .ok (.iload 7, 2) := by decide +kernel
theorem dX5_partByWater_86 : decode cX5_partByWater 86 = .ok (.isub, 1) := by decide +kernel
theorem dX5_partByWater_87 : decode cX5_partByWater 87 = .ok (.iload 6, 2) := by decide +kernel
theorem dX5_partByWater_89 : decode cX5_partByWater 89 = .ok (.iload 8, 2) := by decide +kernel
theorem dX5_partByWater_91 : decode cX5_partByWater 91 = .ok (.isub, 1) := by decide +kernel
theorem dX5_partByWater_92 : decode cX5_partByWater 92 = .ok (.invokevirtual 145, 3) := by decide +kernel
theorem dX5_partByWater_95 : decode cX5_partByWater 95 = .ok (.aload_n 1, 1) := by decide +kernel
theorem dX5_partByWater_96 : decode cX5_partByWater 96 = .ok (.iconst 0, 1) := by decide +kernel
theorem dX5_partByWater_97 : decode cX5_partByWater 97 = .ok (.iconst 0, 1) := by decide +kernel
theorem dX5_partByWater_98 : decode cX5_partByWater 98 = .ok (.invokevirtual 153, 3) := by decide +kernel
theorem dX5_partByWater_101 : decode cX5_partByWater 101 = .ok (.iload 4, 2) := by decide +kernel
theorem dX5_partByWater_103 : decode cX5_partByWater 103 = .ok (.ireturn, 1) := by decide +kernel
theorem dX5_smeltFromStore_0 : decode cX5_smeltFromStore 0 = .ok (.aload_n 0, 1) := by decide +kernel
theorem dX5_smeltFromStore_1 : decode cX5_smeltFromStore 1 = .ok (.getfield 36, 3) := by decide +kernel
theorem dX5_smeltFromStore_4 : decode cX5_smeltFromStore 4 = .ok (.getfield 69, 3) := by decide +kernel
theorem dX5_smeltFromStore_7 : decode cX5_smeltFromStore 7 = .ok (.iload_n 1, 1) := by decide +kernel
theorem dX5_smeltFromStore_8 : decode cX5_smeltFromStore 8 = .ok (.aload_n 0, 1) := by decide +kernel
theorem dX5_smeltFromStore_9 : decode cX5_smeltFromStore 9 = .ok (.getfield 36, 3) := by decide +kernel
theorem dX5_smeltFromStore_12 : decode cX5_smeltFromStore 12 = .ok (.invokevirtual 156, 3) := by decide +kernel
theorem dX5_smeltFromStore_15 : decode cX5_smeltFromStore 15 = .ok (.invokestatic 159, 3) := by decide +kernel
theorem dX5_smeltFromStore_18 : decode cX5_smeltFromStore 18 = .ok (.istore_n 2, 1) := by decide +kernel
theorem dX5_smeltFromStore_19 : decode cX5_smeltFromStore 19 = .ok (.iload_n 1, 1) := by decide +kernel
theorem dX5_smeltFromStore_20 : decode cX5_smeltFromStore 20 = .ok (.iload_n 2, 1) := by decide +kernel
theorem dX5_smeltFromStore_21 : decode cX5_smeltFromStore 21 = .ok (.isub, 1) := by decide +kernel
theorem dX5_smeltFromStore_22 : decode cX5_smeltFromStore 22 = .ok (.istore_n 3, 1) := by decide +kernel
theorem dX5_smeltFromStore_23 : decode cX5_smeltFromStore 23 = .ok (.aload_n 0, 1) := by decide +kernel
theorem dX5_smeltFromStore_24 : decode cX5_smeltFromStore 24 = .ok (.getfield 36, 3) := by decide +kernel
theorem dX5_smeltFromStore_27 : decode cX5_smeltFromStore 27 = .ok (.iload_n 3, 1) := by decide +kernel
theorem dX5_smeltFromStore_28 : decode cX5_smeltFromStore 28 = .ok (.ineg, 1) := by decide +kernel
theorem dX5_smeltFromStore_29 : decode cX5_smeltFromStore 29 = .ok (.iload_n 2, 1) := by decide +kernel
theorem dX5_smeltFromStore_30 : decode cX5_smeltFromStore 30 = .ok (.ineg, 1) := by decide +kernel
theorem dX5_smeltFromStore_31 : decode cX5_smeltFromStore 31 = .ok (.invokevirtual 145, 3) := by decide +kernel
theorem dX5_smeltFromStore_34 : decode cX5_smeltFromStore 34 = .ok (.iload_n 3, 1) := by decide +kernel
theorem dX5_smeltFromStore_35 : decode cX5_smeltFromStore 35 = .ok (.iload_n 2, 1) := by decide +kernel
theorem dX5_smeltFromStore_36 : decode cX5_smeltFromStore 36 = .ok (.invokestatic 163, 3) := by decide +kernel
theorem dX5_smeltFromStore_39 : decode cX5_smeltFromStore 39 = .ok (.sipush 400, 3) := by decide +kernel
theorem dX5_smeltFromStore_42 : decode cX5_smeltFromStore 42 = .ok (.if_icmp .ge 5, 3) := by decide +kernel
theorem dX5_smeltFromStore_45 : decode cX5_smeltFromStore 45 = .ok (.iconst 0, 1) := by decide +kernel
theorem dX5_smeltFromStore_46 : decode cX5_smeltFromStore 46 = .ok (.ireturn, 1) := by decide +kernel
theorem dX5_smeltFromStore_47 : decode cX5_smeltFromStore 47 = .ok (.iload_n 2, 1) := by decide +kernel
theorem dX5_smeltFromStore_48 : decode cX5_smeltFromStore 48 = .ok (.bipush 9, 2) := by decide +kernel
theorem dX5_smeltFromStore_50 : decode cX5_smeltFromStore 50 = .ok (.imul, 1) := by decide +kernel
theorem dX5_smeltFromStore_51 : decode cX5_smeltFromStore 51 = .ok (.bipush 10, 2) := by decide +kernel
theorem dX5_smeltFromStore_53 : decode cX5_smeltFromStore 53 = .ok (.idiv, 1) := by decide +kernel
theorem dX5_smeltFromStore_54 : decode cX5_smeltFromStore 54 = .ok (.istore 4, 2) := by decide +kernel
theorem dX5_smeltFromStore_56 : decode cX5_smeltFromStore 56 = .ok (.aload_n 0, 1) := by decide +kernel
theorem dX5_smeltFromStore_57 : decode cX5_smeltFromStore 57 = .ok (.dup, 1) := by decide +kernel
theorem dX5_smeltFromStore_58 : decode cX5_smeltFromStore 58 = .ok (.getfield 75, 3) := by decide +kernel
theorem dX5_smeltFromStore_61 : decode cX5_smeltFromStore 61 = .ok (.iload 4, 2) := by decide +kernel
theorem dX5_smeltFromStore_63 : decode cX5_smeltFromStore 63 = .ok (.iadd, 1) := by decide +kernel
theorem dX5_smeltFromStore_64 : decode cX5_smeltFromStore 64 = .ok (.putfield 75, 3) := by decide +kernel
theorem dX5_smeltFromStore_67 : decode cX5_smeltFromStore 67 = .ok (.iload 4, 2) := by decide +kernel
theorem dX5_smeltFromStore_69 : decode cX5_smeltFromStore 69 = .ok (.ireturn, 1) := by decide +kernel
theorem dX5_copyWorks_0 : decode cX5_copyWorks 0 = .ok (.aload_n 1, 1) := by decide +kernel
theorem dX5_copyWorks_1 : decode cX5_copyWorks 1 = .ok (.getfield 9, 3) := by decide +kernel
theorem dX5_copyWorks_4 : decode cX5_copyWorks 4 = .ok (.iconst 0, 1) := by decide +kernel
theorem dX5_copyWorks_5 : decode cX5_copyWorks 5 = .ok (.aload_n 0, 1) := by decide +kernel
theorem dX5_copyWorks_6 : decode cX5_copyWorks 6 = .ok (.getfield 9, 3) := by decide +kernel
theorem dX5_copyWorks_9 : decode cX5_copyWorks 9 = .ok (.iconst 0, 1) := by decide +kernel
theorem dX5_copyWorks_10 : decode cX5_copyWorks 10 = .ok (.bipush 24, 2) := by decide +kernel
theorem dX5_copyWorks_12 : decode cX5_copyWorks 12 = .ok (.invokestatic 166, 3) := by decide +kernel
theorem dX5_copyWorks_15 : decode cX5_copyWorks 15 = .ok (.aload_n 0, 1) := by decide +kernel
theorem dX5_copyWorks_16 : decode cX5_copyWorks 16 = .ok (.aload_n 1, 1) := by decide +kernel
theorem dX5_copyWorks_17 : decode cX5_copyWorks 17 = .ok (.getfield 53, 3) := by decide +kernel
theorem dX5_copyWorks_20 : decode cX5_copyWorks 20 = .ok (.putfield 53, 3) := by decide +kernel
theorem dX5_copyWorks_23 : decode cX5_copyWorks 23 = .ok (.iconst 0, 1) := by decide +kernel
theorem dX5_copyWorks_24 : decode cX5_copyWorks 24 = .ok (.istore_n 2, 1) := by decide +kernel
theorem dX5_copyWorks_25 : decode cX5_copyWorks 25 = .ok (.iload_n 2, 1) := by decide +kernel
theorem dX5_copyWorks_26 : decode cX5_copyWorks 26 = .ok (.aload_n 0, 1) := by decide +kernel
theorem dX5_copyWorks_27 : decode cX5_copyWorks 27 = .ok (.getfield 53, 3) := by decide +kernel
theorem dX5_copyWorks_30 : decode cX5_copyWorks 30 = .ok (.if_icmp .ge 24, 3) := by decide +kernel
theorem dX5_copyWorks_33 : decode cX5_copyWorks 33 = .ok (.aload_n 0, 1) := by decide +kernel
theorem dX5_copyWorks_34 : decode cX5_copyWorks 34 = .ok (.getfield 17, 3) := by decide +kernel
theorem dX5_copyWorks_37 : decode cX5_copyWorks 37 = .ok (.iload_n 2, 1) := by decide +kernel
theorem dX5_copyWorks_38 : decode cX5_copyWorks 38 = .ok (.aaload, 1) := by decide +kernel
theorem dX5_copyWorks_39 : decode cX5_copyWorks 39 = .ok (.aload_n 1, 1) := by decide +kernel
theorem dX5_copyWorks_40 : decode cX5_copyWorks 40 = .ok (.getfield 17, 3) := by decide +kernel
theorem dX5_copyWorks_43 : decode cX5_copyWorks 43 = .ok (.iload_n 2, 1) := by decide +kernel
theorem dX5_copyWorks_44 : decode cX5_copyWorks 44 = .ok (.aaload, 1) := by decide +kernel
theorem dX5_copyWorks_45 : decode cX5_copyWorks 45 = .ok (.invokevirtual 172, 3) := by decide +kernel
theorem dX5_copyWorks_48 : decode cX5_copyWorks 48 = .ok (.iinc 2 1, 3) := by decide +kernel
theorem dX5_copyWorks_51 : decode cX5_copyWorks 51 = .ok (.goto (-26), 3) := by decide +kernel
theorem dX5_copyWorks_54 : decode cX5_copyWorks 54 = .ok (.aload_n 0, 1) := by decide +kernel
theorem dX5_copyWorks_55 : decode cX5_copyWorks 55 = .ok (.getfield 25, 3) := by decide +kernel
theorem dX5_copyWorks_58 : decode cX5_copyWorks 58 = .ok (.aload_n 1, 1) := by decide +kernel
theorem dX5_copyWorks_59 : decode cX5_copyWorks 59 = .ok (.getfield 25, 3) := by decide +kernel
theorem dX5_copyWorks_62 : decode cX5_copyWorks 62 = .ok (.invokevirtual 176, 3) := by decide +kernel
theorem dX5_copyWorks_65 : decode cX5_copyWorks 65 = .ok (.iconst 0, 1) := by decide +kernel
theorem dX5_copyWorks_66 : decode cX5_copyWorks 66 = .ok (.istore_n 2, 1) := by decide +kernel
theorem dX5_copyWorks_67 : decode cX5_copyWorks 67 = .ok (.iload_n 2, 1) := by decide +kernel
theorem dX5_copyWorks_68 : decode cX5_copyWorks 68 = .ok (.iconst 3, 1) := by decide +kernel
theorem dX5_copyWorks_69 : decode cX5_copyWorks 69 = .ok (.if_icmp .ge 24, 3) := by decide +kernel
theorem dX5_copyWorks_72 : decode cX5_copyWorks 72 = .ok (.aload_n 0, 1) := by decide +kernel
theorem dX5_copyWorks_73 : decode cX5_copyWorks 73 = .ok (.getfield 31, 3) := by decide +kernel
theorem dX5_copyWorks_76 : decode cX5_copyWorks 76 = .ok (.iload_n 2, 1) := by decide +kernel
theorem dX5_copyWorks_77 : decode cX5_copyWorks 77 = .ok (.aaload, 1) := by decide +kernel
theorem dX5_copyWorks_78 : decode cX5_copyWorks 78 = .ok (.aload_n 1, 1) := by decide +kernel
theorem dX5_copyWorks_79 : decode cX5_copyWorks 79 = .ok (.getfield 31, 3) := by decide +kernel
theorem dX5_copyWorks_82 : decode cX5_copyWorks 82 = .ok (.iload_n 2, 1) := by decide +kernel
theorem dX5_copyWorks_83 : decode cX5_copyWorks 83 = .ok (.aaload, 1) := by decide +kernel
theorem dX5_copyWorks_84 : decode cX5_copyWorks 84 = .ok (.invokevirtual 180, 3) := by decide +kernel
theorem dX5_copyWorks_87 : decode cX5_copyWorks 87 = .ok (.iinc 2 1, 3) := by decide +kernel
theorem dX5_copyWorks_90 : decode cX5_copyWorks 90 = .ok (.goto (-23), 3) := by decide +kernel
theorem dX5_copyWorks_93 : decode cX5_copyWorks 93 = .ok (.aload_n 0, 1) := by decide +kernel
theorem dX5_copyWorks_94 : decode cX5_copyWorks 94 = .ok (.aload_n 1, 1) := by decide +kernel
theorem dX5_copyWorks_95 : decode cX5_copyWorks 95 = .ok (.getfield 50, 3) := by decide +kernel
theorem dX5_copyWorks_98 : decode cX5_copyWorks 98 = .ok (.putfield 50, 3) := by decide +kernel
theorem dX5_copyWorks_101 : decode cX5_copyWorks 101 = .ok (.aload_n 0, 1) := by decide +kernel
theorem dX5_copyWorks_102 : decode cX5_copyWorks 102 = .ok (.aload_n 1, 1) := by decide +kernel
theorem dX5_copyWorks_103 : decode cX5_copyWorks 103 = .ok (.getfield 43, 3) := by decide +kernel
theorem dX5_copyWorks_106 : decode cX5_copyWorks 106 = .ok (.putfield 43, 3) := by decide +kernel
theorem dX5_copyWorks_109 : decode cX5_copyWorks 109 = .ok (.aload_n 0, 1) := by decide +kernel
theorem dX5_copyWorks_110 : decode cX5_copyWorks 110 = .ok (.aload_n 1, 1) := by decide +kernel
theorem dX5_copyWorks_111 : decode cX5_copyWorks 111 = .ok (.getfield 47, 3) := by decide +kernel
theorem dX5_copyWorks_114 : decode cX5_copyWorks 114 = .ok (.putfield 47, 3) := by decide +kernel
theorem dX5_copyWorks_117 : decode cX5_copyWorks 117 = .ok (.aload_n 0, 1) := by decide +kernel
theorem dX5_copyWorks_118 : decode cX5_copyWorks 118 = .ok (.aload_n 1, 1) := by decide +kernel
theorem dX5_copyWorks_119 : decode cX5_copyWorks 119 = .ok (.getfield 72, 3) := by decide +kernel
theorem dX5_copyWorks_122 : decode cX5_copyWorks 122 = .ok (.putfield 72, 3) := by decide +kernel
theorem dX5_copyWorks_125 : decode cX5_copyWorks 125 = .ok (.return_, 1) := by decide +kernel
theorem dX6_init_0 : decode cX6_init 0 = .ok (.aload_n 0, 1) := by decide +kernel
theorem dX6_init_1 : decode cX6_init 1 = .ok (.invokespecial 1, 3) := by decide +kernel
theorem dX6_init_4 : decode cX6_init 4 = .ok (.aload_n 0, 1) := by decide +kernel
theorem dX6_init_5 : decode cX6_init 5 = .ok (.new 7, 3) := by decide +kernel
theorem dX6_init_8 : decode cX6_init 8 = .ok (.dup, 1) := by decide +kernel
theorem dX6_init_9 : decode cX6_init 9 = .ok (.invokespecial 9, 3) := by decide +kernel
theorem dX6_init_12 : decode cX6_init 12 = .ok (.putfield 10, 3) := by decide +kernel
theorem dX6_init_15 : decode cX6_init 15 = .ok (.aload_n 0, 1) := by decide +kernel
theorem dX6_init_16 : decode cX6_init 16 = .ok (.new 7, 3) := by decide +kernel
theorem dX6_init_19 : decode cX6_init 19 = .ok (.dup, 1) := by decide +kernel
theorem dX6_init_20 : decode cX6_init 20 = .ok (.invokespecial 9, 3) := by decide +kernel
theorem dX6_init_23 : decode cX6_init 23 = .ok (.putfield 16, 3) := by decide +kernel
theorem dX6_init_26 : decode cX6_init 26 = .ok (.return_, 1) := by decide +kernel
theorem dX6_setInflow_0 : decode cX6_setInflow 0 = .ok (.iload_n 1, 1) := by decide +kernel
theorem dX6_setInflow_1 : decode cX6_setInflow 1 = .ok (.ifCond .lt 9, 3) := by decide +kernel
theorem dX6_setInflow_4 : decode cX6_setInflow 4 = .ok (.iload_n 1, 1) := by decide +kernel
theorem dX6_setInflow_5 : decode cX6_setInflow 5 = .ok (.bipush 24, 2) := by decide +kernel
theorem dX6_setInflow_7 : decode cX6_setInflow 7 = .ok (.if_icmp .lt 13, 3) := by decide +kernel
theorem dX6_setInflow_10 : decode cX6_setInflow 10 = .ok (.new 19, 3) := by decide +kernel
theorem dX6_setInflow_13 : decode cX6_setInflow 13 = .ok (.dup, 1) := by decide +kernel
theorem dX6_setInflow_14 : decode cX6_setInflow 14 = .ok (.ldc 21, 2) := by decide +kernel
theorem dX6_setInflow_16 : decode cX6_setInflow 16 = .ok (.invokespecial 23, 3) := by decide +kernel
theorem dX6_setInflow_19 : decode cX6_setInflow 19 = .ok (.athrow, 1) := by decide +kernel
theorem dX6_setInflow_20 : decode cX6_setInflow 20 = .ok (.iload_n 2, 1) := by decide +kernel
theorem dX6_setInflow_21 : decode cX6_setInflow 21 = .ok (.ifCond .lt 10, 3) := by decide +kernel
theorem dX6_setInflow_24 : decode cX6_setInflow 24 = .ok (.iload_n 2, 1) := by decide +kernel
theorem dX6_setInflow_25 : decode cX6_setInflow 25 = .ok (.sipush 900, 3) := by decide +kernel
theorem dX6_setInflow_28 : decode cX6_setInflow 28 = .ok (.if_icmp .le 13, 3) := by decide +kernel
theorem dX6_setInflow_31 : decode cX6_setInflow 31 = .ok (.new 26, 3) := by decide +kernel
theorem dX6_setInflow_34 : decode cX6_setInflow 34 = .ok (.dup, 1) := by decide +kernel
theorem dX6_setInflow_35 : decode cX6_setInflow 35 = .ok (.ldc 28, 2) := by decide +kernel
theorem dX6_setInflow_37 : decode cX6_setInflow 37 = .ok (.invokespecial 30, 3) := by decide +kernel
theorem dX6_setInflow_40 : decode cX6_setInflow 40 = .ok (.athrow, 1) := by decide +kernel
theorem dX6_setInflow_41 : decode cX6_setInflow 41 = .ok (.aload_n 0, 1) := by decide +kernel
theorem dX6_setInflow_42 : decode cX6_setInflow 42 = .ok (.getfield 10, 3) := by decide +kernel
theorem dX6_setInflow_45 : decode cX6_setInflow 45 = .ok (.getfield 31, 3) := by decide +kernel
theorem dX6_setInflow_48 : decode cX6_setInflow 48 = .ok (.iload_n 1, 1) := by decide +kernel
theorem dX6_setInflow_49 : decode cX6_setInflow 49 = .ok (.iaload, 1) := by decide +kernel
theorem dX6_setInflow_50 : decode cX6_setInflow 50 = .ok (.istore_n 3, 1) := by decide +kernel
theorem dX6_setInflow_51 : decode cX6_setInflow 51 = .ok (.aload_n 0, 1) := by decide +kernel
theorem dX6_setInflow_52 : decode cX6_setInflow 52 = .ok (.getfield 10, 3) := by decide +kernel
theorem dX6_setInflow_55 : decode cX6_setInflow 55 = .ok (.getfield 31, 3) := by decide +kernel
theorem dX6_setInflow_58 : decode cX6_setInflow 58 = .ok (.iload_n 1, 1) := by decide +kernel
theorem dX6_setInflow_59 : decode cX6_setInflow 59 = .ok (.iload_n 2, 1) := by decide +kernel
theorem dX6_setInflow_60 : decode cX6_setInflow 60 = .ok (.iastore, 1) := by decide +kernel
theorem dX6_setInflow_61 : decode cX6_setInflow 61 = .ok (.iload_n 3, 1) := by decide +kernel
theorem dX6_setInflow_62 : decode cX6_setInflow 62 = .ok (.ireturn, 1) := by decide +kernel
theorem dX6_setSluice_0 : decode cX6_setSluice 0 = .ok (.iload_n 1, 1) := by decide +kernel
theorem dX6_setSluice_1 : decode cX6_setSluice 1 = .ok (.ifCond .lt 9, 3) := by decide +kernel
theorem dX6_setSluice_4 : decode cX6_setSluice 4 = .ok (.iload_n 1, 1) := by decide +kernel
theorem dX6_setSluice_5 : decode cX6_setSluice 5 = .ok (.bipush 20, 2) := by decide +kernel
theorem dX6_setSluice_7 : decode cX6_setSluice 7 = .ok (.if_icmp .le 13, 3) := by decide +kernel
theorem dX6_setSluice_10 : decode cX6_setSluice 10 = .ok (.new 26, 3) := by decide +kernel
theorem dX6_setSluice_13 : decode cX6_setSluice 13 = .ok (.dup, 1) := by decide +kernel
theorem dX6_setSluice_14 : decode cX6_setSluice 14 = .ok (.ldc 35, 2) := by decide +kernel
theorem dX6_setSluice_16 : decode cX6_setSluice 16 = .ok (.invokespecial 30, 3) := by decide +kernel
theorem dX6_setSluice_19 : decode cX6_setSluice 19 = .ok (.athrow, 1) := by decide +kernel
theorem dX6_setSluice_20 : decode cX6_setSluice 20 = .ok (.aload_n 0, 1) := by decide +kernel
theorem dX6_setSluice_21 : decode cX6_setSluice 21 = .ok (.getfield 10, 3) := by decide +kernel
theorem dX6_setSluice_24 : decode cX6_setSluice 24 = .ok (.getfield 37, 3) := by decide +kernel
theorem dX6_setSluice_27 : decode cX6_setSluice 27 = .ok (.istore_n 2, 1) := by decide +kernel
theorem dX6_setSluice_28 : decode cX6_setSluice 28 = .ok (.aload_n 0, 1) := by decide +kernel
theorem dX6_setSluice_29 : decode cX6_setSluice 29 = .ok (.getfield 10, 3) := by decide +kernel
theorem dX6_setSluice_32 : decode cX6_setSluice 32 = .ok (.iload_n 1, 1) := by decide +kernel
theorem dX6_setSluice_33 : decode cX6_setSluice 33 = .ok (.putfield 37, 3) := by decide +kernel
theorem dX6_setSluice_36 : decode cX6_setSluice 36 = .ok (.iload_n 2, 1) := by decide +kernel
theorem dX6_setSluice_37 : decode cX6_setSluice 37 = .ok (.ireturn, 1) := by decide +kernel
theorem dX6_addBox_0 : decode cX6_addBox 0 = .ok (.aload_n 0, 1) := by decide +kernel
theorem dX6_addBox_1 : decode cX6_addBox 1 = .ok (.getfield 10, 3) := by decide +kernel
theorem dX6_addBox_4 : decode cX6_addBox 4 = .ok (.getfield 41, 3) := by decide +kernel
theorem dX6_addBox_7 : decode cX6_addBox 7 = .ok (.iconst 4, 1) := by decide +kernel
theorem dX6_addBox_8 : decode cX6_addBox 8 = .ok (.if_icmp .lt 13, 3) := by decide +kernel
theorem dX6_addBox_11 : decode cX6_addBox 11 = .ok (.new 44, 3) := by decide +kernel
theorem dX6_addBox_14 : decode cX6_addBox 14 = .ok (.dup, 1) := by decide +kernel
theorem dX6_addBox_15 : decode cX6_addBox 15 = .ok (.ldc 46, 2) := by decide +kernel
theorem dX6_addBox_17 : decode cX6_addBox 17 = .ok (.invokespecial 48, 3) := by decide +kernel
theorem dX6_addBox_20 : decode cX6_addBox 20 = .ok (.athrow, 1) := by decide +kernel
theorem dX6_addBox_21 : decode cX6_addBox 21 = .ok (.aload_n 0, 1) := by decide +kernel
theorem dX6_addBox_22 : decode cX6_addBox 22 = .ok (.getfield 10, 3) := by decide +kernel
theorem dX6_addBox_25 : decode cX6_addBox 25 = .ok (.dup, 1) := by decide +kernel
theorem dX6_addBox_26 : decode cX6_addBox 26 = .ok (.getfield 41, 3) := by decide +kernel
theorem dX6_addBox_29 : decode cX6_addBox 29 = .ok (.iconst 1, 1) := by decide +kernel
theorem dX6_addBox_30 : decode cX6_addBox 30 = .ok (.iadd, 1) := by decide +kernel
theorem dX6_addBox_31 : decode cX6_addBox 31 = .ok (.putfield 41, 3) := by decide +kernel
theorem dX6_addBox_34 : decode cX6_addBox 34 = .ok (.aload_n 0, 1) := by decide +kernel
theorem dX6_addBox_35 : decode cX6_addBox 35 = .ok (.getfield 10, 3) := by decide +kernel
theorem dX6_addBox_38 : decode cX6_addBox 38 = .ok (.getfield 41, 3) := by decide +kernel
theorem dX6_addBox_41 : decode cX6_addBox 41 = .ok (.iconst 1, 1) := by decide +kernel
theorem dX6_addBox_42 : decode cX6_addBox 42 = .ok (.isub, 1) := by decide +kernel
theorem dX6_addBox_43 : decode cX6_addBox 43 = .ok (.ireturn, 1) := by decide +kernel
theorem dX6_hang_0 : decode cX6_hang 0 = .ok (.aload_n 0, 1) := by decide +kernel
theorem dX6_hang_1 : decode cX6_hang 1 = .ok (.iload_n 1, 1) := by decide +kernel
theorem dX6_hang_2 : decode cX6_hang 2 = .ok (.invokevirtual 49, 3) := by decide +kernel
theorem dX6_hang_5 : decode cX6_hang 5 = .ok (.astore 4, 2) := by decide +kernel
theorem dX6_hang_7 : decode cX6_hang 7 = .ok (.iload_n 2, 1) := by decide +kernel
theorem dX6_hang_8 : decode cX6_hang 8 = .ok (.bipush 10, 2) := by decide +kernel
theorem dX6_hang_10 : decode cX6_hang 10 = .ok (.if_icmp .lt 9, 3) := by decide +kernel
theorem dX6_hang_13 : decode cX6_hang 13 = .ok (.iload_n 2, 1) := by decide +kernel
theorem dX6_hang_14 : decode cX6_hang 14 = .ok (.bipush 60, 2) := by decide +kernel
theorem dX6_hang_16 : decode cX6_hang 16 = .ok (.if_icmp .le 13, 3) := by decide +kernel
theorem dX6_hang_19 : decode cX6_hang 19 = .ok (.new 26, 3) := by decide +kernel
theorem dX6_hang_22 : decode cX6_hang 22 = .ok (.dup, 1) := by decide +kernel
theorem dX6_hang_23 : decode cX6_hang 23 = .ok (.ldc 53, 2) := by decide +kernel
theorem dX6_hang_25 : decode cX6_hang 25 = .ok (.invokespecial 30, 3) := by decide +kernel
theorem dX6_hang_28 : decode cX6_hang 28 = .ok (.athrow, 1) := by decide +kernel
theorem dX6_hang_29 : decode cX6_hang 29 = .ok (.iload_n 3, 1) := by decide +kernel
theorem dX6_hang_30 : decode cX6_hang 30 = .ok (.iconst 1, 1) := by decide +kernel
theorem dX6_hang_31 : decode cX6_hang 31 = .ok (.if_icmp .lt 8, 3) := by decide +kernel
theorem dX6_hang_34 : decode cX6_hang 34 = .ok (.iload_n 3, 1) := by decide +kernel
theorem dX6_hang_35 : decode cX6_hang 35 = .ok (.iconst 4, 1) := by decide +kernel
theorem dX6_hang_36 : decode cX6_hang 36 = .ok (.if_icmp .le 13, 3) := by decide +kernel
theorem dX6_hang_39 : decode cX6_hang 39 = .ok (.new 26, 3) := by decide +kernel
theorem dX6_hang_42 : decode cX6_hang 42 = .ok (.dup, 1) := by decide +kernel
theorem dX6_hang_43 : decode cX6_hang 43 = .ok (.ldc 55, 2) := by decide +kernel
theorem dX6_hang_45 : decode cX6_hang 45 = .ok (.invokespecial 30, 3) := by decide +kernel
theorem dX6_hang_48 : decode cX6_hang 48 = .ok (.athrow, 1) := by decide +kernel
theorem dX6_hang_49 : decode cX6_hang 49 = .ok (.aload 4, 2) := by decide +kernel
theorem dX6_hang_51 : decode cX6_hang 51 = .ok (.getfield 57, 3) := by decide +kernel
theorem dX6_hang_54 : decode cX6_hang 54 = .ok (.iconst 4, 1) := by decide +kernel
theorem dX6_hang_55 : decode cX6_hang 55 = .ok (.if_icmp .lt 13, 3) := by decide +kernel
theorem dX6_hang_58 : decode cX6_hang 58 = .ok (.new 44, 3) := by decide +kernel
theorem dX6_hang_61 : decode cX6_hang 61 = .ok (.dup, 1) := by decide +kernel
theorem dX6_hang_62 : decode cX6_hang 62 = .ok (.ldc 62, 2) := by decide +kernel
theorem dX6_hang_64 : decode cX6_hang 64 = .ok (.invokespecial 48, 3) := by decide +kernel
theorem dX6_hang_67 : decode cX6_hang 67 = .ok (.athrow, 1) := by decide +kernel
theorem dX6_hang_68 : decode cX6_hang 68 = .ok (.aload 4, 2) := by decide +kernel
theorem dX6_hang_70 : decode cX6_hang 70 = .ok (.iload_n 2, 1) := by decide +kernel
theorem dX6_hang_71 : decode cX6_hang 71 = .ok (.iload_n 3, 1) := by decide +kernel
theorem dX6_hang_72 : decode cX6_hang 72 = .ok (.invokevirtual 64, 3) := by decide +kernel
theorem dX6_hang_75 : decode cX6_hang 75 = .ok (.aload 4, 2) := by decide +kernel
theorem dX6_hang_77 : decode cX6_hang 77 = .ok (.getfield 57, 3) := by decide +kernel
theorem dX6_hang_80 : decode cX6_hang 80 = .ok (.ireturn, 1) := by decide +kernel
theorem dX6_shoe_0 : decode cX6_shoe 0 = .ok (.aload_n 0, 1) := by decide +kernel
theorem dX6_shoe_1 : decode cX6_shoe 1 = .ok (.iload_n 1, 1) := by decide +kernel
theorem dX6_shoe_2 : decode cX6_shoe 2 = .ok (.invokevirtual 49, 3) := by decide +kernel
theorem dX6_shoe_5 : decode cX6_shoe 5 = .ok (.astore_n 3, 1) := by decide +kernel
theorem dX6_shoe_6 : decode cX6_shoe 6 = .ok (.iload_n 2, 1) := by decide +kernel
theorem dX6_shoe_7 : decode cX6_shoe 7 = .ok (.ifCond .lt 11, 3) := by decide +kernel
theorem dX6_shoe_10 : decode cX6_shoe 10 = .ok (.iload_n 2, 1) := by decide +kernel
theorem dX6_shoe_11 : decode cX6_shoe 11 = .ok (.aload_n 3, 1) := by decide +kernel
theorem dX6_shoe_12 : decode cX6_shoe 12 = .ok (.getfield 57, 3) := by decide +kernel
theorem dX6_shoe_15 : decode cX6_shoe 15 = .ok (.if_icmp .lt 13, 3) := by decide +kernel
theorem dX6_shoe_18 : decode cX6_shoe 18 = .ok (.new 19, 3) := by decide +kernel
theorem dX6_shoe_21 : decode cX6_shoe 21 = .ok (.dup, 1) := by decide +kernel
theorem dX6_shoe_22 : decode cX6_shoe 22 = .ok (.ldc 68, 2) := by decide +kernel
theorem dX6_shoe_24 : decode cX6_shoe 24 = .ok (.invokespecial 23, 3) := by decide +kernel
theorem dX6_shoe_27 : decode cX6_shoe 27 = .ok (.athrow, 1) := by decide +kernel
theorem dX6_shoe_28 : decode cX6_shoe 28 = .ok (.aload_n 3, 1) := by decide +kernel
theorem dX6_shoe_29 : decode cX6_shoe 29 = .ok (.getfield 70, 3) := by decide +kernel
theorem dX6_shoe_32 : decode cX6_shoe 32 = .ok (.iload_n 2, 1) := by decide +kernel
theorem dX6_shoe_33 : decode cX6_shoe 33 = .ok (.aaload, 1) := by decide +kernel
theorem dX6_shoe_34 : decode cX6_shoe 34 = .ok (.getfield 74, 3) := by decide +kernel
theorem dX6_shoe_37 : decode cX6_shoe 37 = .ok (.istore 4, 2) := by decide +kernel
theorem dX6_shoe_39 : decode cX6_shoe 39 = .ok (.aload_n 3, 1) := by decide +kernel
theorem dX6_shoe_40 : decode cX6_shoe 40 = .ok (.getfield 70, 3) := by decide +kernel
theorem dX6_shoe_43 : decode cX6_shoe 43 = .ok (.iload_n 2, 1) := by decide +kernel
theorem dX6_shoe_44 : decode cX6_shoe 44 = .ok (.aaload, 1) := by decide +kernel
theorem dX6_shoe_45 : decode cX6_shoe 45 = .ok (.iconst 0, 1) := by decide +kernel
theorem dX6_shoe_46 : decode cX6_shoe 46 = .ok (.putfield 74, 3) := by decide +kernel
theorem dX6_shoe_49 : decode cX6_shoe 49 = .ok (.iload 4, 2) := by decide +kernel
theorem dX6_shoe_51 : decode cX6_shoe 51 = .ok (.ireturn, 1) := by decide +kernel
theorem dX6_setBox_0 : decode cX6_setBox 0 = .ok (.aload_n 0, 1) := by decide +kernel
theorem dX6_setBox_1 : decode cX6_setBox 1 = .ok (.iload_n 1, 1) := by decide +kernel
theorem dX6_setBox_2 : decode cX6_setBox 2 = .ok (.invokevirtual 49, 3) := by decide +kernel
theorem dX6_setBox_5 : decode cX6_setBox 5 = .ok (.astore 4, 2) := by decide +kernel
theorem dX6_setBox_7 : decode cX6_setBox 7 = .ok (.iload_n 2, 1) := by decide +kernel
theorem dX6_setBox_8 : decode cX6_setBox 8 = .ok (.ifCond .lt 10, 3) := by decide +kernel
theorem dX6_setBox_11 : decode cX6_setBox 11 = .ok (.iload_n 2, 1) := by decide +kernel
theorem dX6_setBox_12 : decode cX6_setBox 12 = .ok (.sipush 300, 3) := by decide +kernel
theorem dX6_setBox_15 : decode cX6_setBox 15 = .ok (.if_icmp .le 13, 3) := by decide +kernel
theorem dX6_setBox_18 : decode cX6_setBox 18 = .ok (.new 26, 3) := by decide +kernel
theorem dX6_setBox_21 : decode cX6_setBox 21 = .ok (.dup, 1) := by decide +kernel
theorem dX6_setBox_22 : decode cX6_setBox 22 = .ok (.ldc 79, 2) := by decide +kernel
theorem dX6_setBox_24 : decode cX6_setBox 24 = .ok (.invokespecial 30, 3) := by decide +kernel
theorem dX6_setBox_27 : decode cX6_setBox 27 = .ok (.athrow, 1) := by decide +kernel
theorem dX6_setBox_28 : decode cX6_setBox 28 = .ok (.iload_n 3, 1) := by decide +kernel
theorem dX6_setBox_29 : decode cX6_setBox 29 = .ok (.ifCond .lt 8, 3) := by decide +kernel
theorem dX6_setBox_32 : decode cX6_setBox 32 = .ok (.iload_n 3, 1) := by decide +kernel
theorem dX6_setBox_33 : decode cX6_setBox 33 = .ok (.iconst 3, 1) := by decide +kernel
theorem dX6_setBox_34 : decode cX6_setBox 34 = .ok (.if_icmp .lt 13, 3) := by decide +kernel
theorem dX6_setBox_37 : decode cX6_setBox 37 = .ok (.new 26, 3) := by decide +kernel
theorem dX6_setBox_40 : decode cX6_setBox 40 = .ok (.dup, 1) := by decide +kernel
theorem dX6_setBox_41 : decode cX6_setBox 41 = .ok (.ldc 81, 2) := by decide +kernel
theorem dX6_setBox_43 : decode cX6_setBox 43 = .ok (.invokespecial 30, 3) := by decide +kernel
theorem dX6_setBox_46 : decode cX6_setBox 46 = .ok (.athrow, 1) := by decide +kernel
theorem dX6_setBox_47 : decode cX6_setBox 47 = .ok (.aload 4, 2) := by decide +kernel
theorem dX6_setBox_49 : decode cX6_setBox 49 = .ok (.getfield 83, 3) := by decide +kernel
theorem dX6_setBox_52 : decode cX6_setBox 52 = .ok (.istore 5, 2) := by decide +kernel
theorem dX6_setBox_54 : decode cX6_setBox 54 = .ok (.aload 4, 2) := by decide +kernel
theorem dX6_setBox_56 : decode cX6_setBox 56 = .ok (.iload_n 2, 1) := by decide +kernel
theorem dX6_setBox_57 : decode cX6_setBox 57 = .ok (.putfield 83, 3) := by decide +kernel
theorem dX6_setBox_60 : decode cX6_setBox 60 = .ok (.aload 4, 2) := by decide +kernel
theorem dX6_setBox_62 : decode cX6_setBox 62 = .ok (.iload_n 3, 1) := by decide +kernel
theorem dX6_setBox_63 : decode cX6_setBox 63 = .ok (.putfield 86, 3) := by decide +kernel
theorem dX6_setBox_66 : decode cX6_setBox 66 = .ok (.iload 5, 2) := by decide +kernel
theorem dX6_setBox_68 : decode cX6_setBox 68 = .ok (.ireturn, 1) := by decide +kernel
theorem dX6_box_0 : decode cX6_box 0 = .ok (.aload_n 0, 1) := by decide +kernel
theorem dX6_box_1 : decode cX6_box 1 = .ok (.iload_n 1, 1) := by decide +kernel
theorem dX6_box_2 : decode cX6_box 2 = .ok (.invokevirtual 49, 3) := by decide +kernel
theorem dX6_box_5 : decode cX6_box 5 = .ok (.astore_n 3, 1) := by decide +kernel
theorem dX6_box_6 : decode cX6_box 6 = .ok (.iload_n 2, 1) := by decide +kernel
theorem dX6_box_7 : decode cX6_box 7 = .ok (.ifCond .lt 9, 3) := by decide +kernel
theorem dX6_box_10 : decode cX6_box 10 = .ok (.iload_n 2, 1) := by decide +kernel
theorem dX6_box_11 : decode cX6_box 11 = .ok (.bipush 12, 2) := by decide +kernel
theorem dX6_box_13 : decode cX6_box 13 = .ok (.if_icmp .lt 13, 3) := by decide +kernel
theorem dX6_box_16 : decode cX6_box 16 = .ok (.new 19, 3) := by decide +kernel
theorem dX6_box_19 : decode cX6_box 19 = .ok (.dup, 1) := by decide +kernel
theorem dX6_box_20 : decode cX6_box 20 = .ok (.ldc 89, 2) := by decide +kernel
theorem dX6_box_22 : decode cX6_box 22 = .ok (.invokespecial 23, 3) := by decide +kernel
theorem dX6_box_25 : decode cX6_box 25 = .ok (.athrow, 1) := by decide +kernel
theorem dX6_box_26 : decode cX6_box 26 = .ok (.aload_n 3, 1) := by decide +kernel
theorem dX6_box_27 : decode cX6_box 27 = .ok (.iload_n 2, 1) := by decide +kernel
theorem dX6_box_28 : decode cX6_box 28 = .ok (.invokevirtual 91, 3) := by decide +kernel
theorem dX6_box_31 : decode cX6_box 31 = .ok (.ireturn, 1) := by decide +kernel
theorem dX6_bring_0 : decode cX6_bring 0 = .ok (.iload_n 1, 1) := by decide +kernel
theorem dX6_bring_1 : decode cX6_bring 1 = .ok (.iconst 1, 1) := by decide +kernel
theorem dX6_bring_2 : decode cX6_bring 2 = .ok (.if_icmp .lt 10, 3) := by decide +kernel
theorem dX6_bring_5 : decode cX6_bring 5 = .ok (.iload_n 1, 1) := by decide +kernel
theorem dX6_bring_6 : decode cX6_bring 6 = .ok (.sipush 5000, 3) := by decide +kernel
theorem dX6_bring_9 : decode cX6_bring 9 = .ok (.if_icmp .le 13, 3) := by decide +kernel
theorem dX6_bring_12 : decode cX6_bring 12 = .ok (.new 26, 3) := by decide +kernel
theorem dX6_bring_15 : decode cX6_bring 15 = .ok (.dup, 1) := by decide +kernel
theorem dX6_bring_16 : decode cX6_bring 16 = .ok (.ldc 95, 2) := by decide +kernel
theorem dX6_bring_18 : decode cX6_bring 18 = .ok (.invokespecial 30, 3) := by decide +kernel
theorem dX6_bring_21 : decode cX6_bring 21 = .ok (.athrow, 1) := by decide +kernel
theorem dX6_bring_22 : decode cX6_bring 22 = .ok (.iload_n 2, 1) := by decide +kernel
theorem dX6_bring_23 : decode cX6_bring 23 = .ok (.ifCond .lt 10, 3) := by decide +kernel
theorem dX6_bring_26 : decode cX6_bring 26 = .ok (.iload_n 2, 1) := by decide +kernel
theorem dX6_bring_27 : decode cX6_bring 27 = .ok (.sipush 1000, 3) := by decide +kernel
theorem dX6_bring_30 : decode cX6_bring 30 = .ok (.if_icmp .le 13, 3) := by decide +kernel
theorem dX6_bring_33 : decode cX6_bring 33 = .ok (.new 26, 3) := by decide +kernel
theorem dX6_bring_36 : decode cX6_bring 36 = .ok (.dup, 1) := by decide +kernel
theorem dX6_bring_37 : decode cX6_bring 37 = .ok (.ldc 97, 2) := by decide +kernel
theorem dX6_bring_39 : decode cX6_bring 39 = .ok (.invokespecial 30, 3) := by decide +kernel
theorem dX6_bring_42 : decode cX6_bring 42 = .ok (.athrow, 1) := by decide +kernel
theorem dX6_bring_43 : decode cX6_bring 43 = .ok (.iload_n 3, 1) := by decide +kernel
theorem dX6_bring_44 : decode cX6_bring 44 = .ok (.iconst 1, 1) := by decide +kernel
theorem dX6_bring_45 : decode cX6_bring 45 = .ok (.if_icmp .lt 9, 3) := by decide +kernel
theorem dX6_bring_48 : decode cX6_bring 48 = .ok (.iload_n 3, 1) := by decide +kernel
theorem dX6_bring_49 : decode cX6_bring 49 = .ok (.bipush 9, 2) := by decide +kernel
theorem dX6_bring_51 : decode cX6_bring 51 = .ok (.if_icmp .le 13, 3) := by decide +kernel
theorem dX6_bring_54 : decode cX6_bring 54 = .ok (.new 26, 3) := by decide +kernel
theorem dX6_bring_57 : decode cX6_bring 57 = .ok (.dup, 1) := by decide +kernel
theorem dX6_bring_58 : decode cX6_bring 58 = .ok (.ldc 99, 2) := by decide +kernel
theorem dX6_bring_60 : decode cX6_bring 60 = .ok (.invokespecial 30, 3) := by decide +kernel
theorem dX6_bring_63 : decode cX6_bring 63 = .ok (.athrow, 1) := by decide +kernel
theorem dX6_bring_64 : decode cX6_bring 64 = .ok (.aload_n 0, 1) := by decide +kernel
theorem dX6_bring_65 : decode cX6_bring 65 = .ok (.invokevirtual 101, 3) := by decide +kernel
theorem dX6_bring_68 : decode cX6_bring 68 = .ok (.iload_n 1, 1) := by decide +kernel
theorem dX6_bring_69 : decode cX6_bring 69 = .ok (.iload_n 2, 1) := by decide +kernel
theorem dX6_bring_70 : decode cX6_bring 70 = .ok (.imul, 1) := by decide +kernel
theorem dX6_bring_71 : decode cX6_bring 71 = .ok (.sipush 1000, 3) := by decide +kernel
theorem dX6_bring_74 : decode cX6_bring 74 = .ok (.idiv, 1) := by decide +kernel
theorem dX6_bring_75 : decode cX6_bring 75 = .ok (.istore 4, 2) := by decide +kernel
theorem dX6_bring_77 : decode cX6_bring 77 = .ok (.aload_n 0, 1) := by decide +kernel
theorem dX6_bring_78 : decode cX6_bring 78 = .ok (.getfield 10, 3) := by decide +kernel
theorem dX6_bring_81 : decode cX6_bring 81 = .ok (.getfield 104, 3) := by decide +kernel
theorem dX6_bring_84 : decode cX6_bring 84 = .ok (.iload_n 1, 1) := by decide +kernel
theorem dX6_bring_85 : decode cX6_bring 85 = .ok (.iload 4, 2) := by decide +kernel
theorem dX6_bring_87 : decode cX6_bring 87 = .ok (.isub, 1) := by decide +kernel
theorem dX6_bring_88 : decode cX6_bring 88 = .ok (.iload 4, 2) := by decide +kernel
theorem dX6_bring_90 : decode cX6_bring 90 = .ok (.iload_n 3, 1) := by decide +kernel
theorem dX6_bring_91 : decode cX6_bring 91 = .ok (.invokevirtual 108, 3) := by decide +kernel
theorem dX6_bring_94 : decode cX6_bring 94 = .ok (.aload_n 0, 1) := by decide +kernel
theorem dX6_bring_95 : decode cX6_bring 95 = .ok (.getfield 10, 3) := by decide +kernel
theorem dX6_bring_98 : decode cX6_bring 98 = .ok (.getfield 104, 3) := by decide +kernel
theorem dX6_bring_101 : decode cX6_bring 101 = .ok (.getfield 114, 3) := by decide +kernel
theorem dX6_bring_104 : decode cX6_bring 104 = .ok (.ireturn, 1) := by decide +kernel
theorem dX6_lot_0 : decode cX6_lot 0 = .ok (.iload_n 1, 1) := by decide +kernel
theorem dX6_lot_1 : decode cX6_lot 1 = .ok (.ifCond .lt 17, 3) := by decide +kernel
theorem dX6_lot_4 : decode cX6_lot 4 = .ok (.iload_n 1, 1) := by decide +kernel
theorem dX6_lot_5 : decode cX6_lot 5 = .ok (.aload_n 0, 1) := by decide +kernel
theorem dX6_lot_6 : decode cX6_lot 6 = .ok (.getfield 10, 3) := by decide +kernel
theorem dX6_lot_9 : decode cX6_lot 9 = .ok (.getfield 104, 3) := by decide +kernel
theorem dX6_lot_12 : decode cX6_lot 12 = .ok (.getfield 114, 3) := by decide +kernel
theorem dX6_lot_15 : decode cX6_lot 15 = .ok (.if_icmp .lt 13, 3) := by decide +kernel
theorem dX6_lot_18 : decode cX6_lot 18 = .ok (.new 19, 3) := by decide +kernel
theorem dX6_lot_21 : decode cX6_lot 21 = .ok (.dup, 1) := by decide +kernel
theorem dX6_lot_22 : decode cX6_lot 22 = .ok (.ldc 117, 2) := by decide +kernel
theorem dX6_lot_24 : decode cX6_lot 24 = .ok (.invokespecial 23, 3) := by decide +kernel
theorem dX6_lot_27 : decode cX6_lot 27 = .ok (.athrow, 1) := by decide +kernel
theorem dX6_lot_28 : decode cX6_lot 28 = .ok (.iload_n 2, 1) := by decide +kernel
theorem dX6_lot_29 : decode cX6_lot 29 = .ok (.ifCond .lt 8, 3) := by decide +kernel
theorem dX6_lot_32 : decode cX6_lot 32 = .ok (.iload_n 2, 1) := by decide +kernel
theorem dX6_lot_33 : decode cX6_lot 33 = .ok (.iconst 3, 1) := by decide +kernel
theorem dX6_lot_34 : decode cX6_lot 34 = .ok (.if_icmp .lt 13, 3) := by decide +kernel
theorem dX6_lot_37 : decode cX6_lot 37 = .ok (.new 19, 3) := by decide +kernel
theorem dX6_lot_40 : decode cX6_lot 40 = .ok (.dup, 1) := by decide +kernel
theorem dX6_lot_41 : decode cX6_lot 41 = .ok (.ldc 119, 2) := by decide +kernel
theorem dX6_lot_43 : decode cX6_lot 43 = .ok (.invokespecial 23, 3) := by decide +kernel
theorem dX6_lot_46 : decode cX6_lot 46 = .ok (.athrow, 1) := by decide +kernel
theorem dX6_lot_47 : decode cX6_lot 47 = .ok (.aload_n 0, 1) := by decide +kernel
theorem dX6_lot_48 : decode cX6_lot 48 = .ok (.getfield 10, 3) := by decide +kernel
theorem dX6_lot_51 : decode cX6_lot 51 = .ok (.getfield 104, 3) := by decide +kernel
theorem dX6_lot_54 : decode cX6_lot 54 = .ok (.iload_n 1, 1) := by decide +kernel
theorem dX6_lot_55 : decode cX6_lot 55 = .ok (.invokevirtual 121, 3) := by decide +kernel
theorem dX6_lot_58 : decode cX6_lot 58 = .ok (.iload_n 2, 1) := by decide +kernel
theorem dX6_lot_59 : decode cX6_lot 59 = .ok (.invokevirtual 125, 3) := by decide +kernel
theorem dX6_lot_62 : decode cX6_lot 62 = .ok (.ireturn, 1) := by decide +kernel
theorem dX6_run_0 : decode cX6_run 0 = .ok (.iload_n 1, 1) := by decide +kernel
theorem dX6_run_1 : decode cX6_run 1 = .ok (.bipush 100, 2) := by decide +kernel
theorem dX6_run_3 : decode cX6_run 3 = .ok (.invokestatic 130, 3) := by decide +kernel
theorem dX6_run_6 : decode cX6_run 6 = .ok (.aload_n 0, 1) := by decide +kernel
theorem dX6_run_7 : decode cX6_run 7 = .ok (.iload_n 1, 1) := by decide +kernel
theorem dX6_run_8 : decode cX6_run 8 = .ok (.invokevirtual 133, 3) := by decide +kernel
theorem dX6_run_11 : decode cX6_run 11 = .ok (.aload_n 0, 1) := by decide +kernel
theorem dX6_run_12 : decode cX6_run 12 = .ok (.getfield 10, 3) := by decide +kernel
theorem dX6_run_15 : decode cX6_run 15 = .ok (.iload_n 1, 1) := by decide +kernel
theorem dX6_run_16 : decode cX6_run 16 = .ok (.invokevirtual 137, 3) := by decide +kernel
theorem dX6_run_19 : decode cX6_run 19 = .ok (.ireturn, 1) := by decide +kernel
theorem dX6_count_0 : decode cX6_count 0 = .ok (.iload_n 1, 1) := by decide +kernel
theorem dX6_count_1 : decode cX6_count 1 = .ok (.ifCond .lt 9, 3) := by decide +kernel
theorem dX6_count_4 : decode cX6_count 4 = .ok (.iload_n 1, 1) := by decide +kernel
theorem dX6_count_5 : decode cX6_count 5 = .ok (.bipush 14, 2) := by decide +kernel
theorem dX6_count_7 : decode cX6_count 7 = .ok (.if_icmp .lt 13, 3) := by decide +kernel
theorem dX6_count_10 : decode cX6_count 10 = .ok (.new 19, 3) := by decide +kernel
theorem dX6_count_13 : decode cX6_count 13 = .ok (.dup, 1) := by decide +kernel
theorem dX6_count_14 : decode cX6_count 14 = .ok (.ldc 140, 2) := by decide +kernel
theorem dX6_count_16 : decode cX6_count 16 = .ok (.invokespecial 23, 3) := by decide +kernel
theorem dX6_count_19 : decode cX6_count 19 = .ok (.athrow, 1) := by decide +kernel
theorem dX6_count_20 : decode cX6_count 20 = .ok (.aload_n 0, 1) := by decide +kernel
theorem dX6_count_21 : decode cX6_count 21 = .ok (.getfield 10, 3) := by decide +kernel
theorem dX6_count_24 : decode cX6_count 24 = .ok (.iload_n 1, 1) := by decide +kernel
theorem dX6_count_25 : decode cX6_count 25 = .ok (.invokevirtual 142, 3) := by decide +kernel
theorem dX6_count_28 : decode cX6_count 28 = .ok (.ireturn, 1) := by decide +kernel
theorem dX6_buddle_0 : decode cX6_buddle 0 = .ok (.aload_n 0, 1) := by decide +kernel
theorem dX6_buddle_1 : decode cX6_buddle 1 = .ok (.iload_n 1, 1) := by decide +kernel
theorem dX6_buddle_2 : decode cX6_buddle 2 = .ok (.invokevirtual 145, 3) := by decide +kernel
theorem dX6_buddle_5 : decode cX6_buddle 5 = .ok (.astore_n 3, 1) := by decide +kernel
theorem dX6_buddle_6 : decode cX6_buddle 6 = .ok (.iload_n 2, 1) := by decide +kernel
theorem dX6_buddle_7 : decode cX6_buddle 7 = .ok (.ifCond .lt 8, 3) := by decide +kernel
theorem dX6_buddle_10 : decode cX6_buddle 10 = .ok (.iload_n 2, 1) := by decide +kernel
theorem dX6_buddle_11 : decode cX6_buddle 11 = .ok (.iconst 3, 1) := by decide +kernel
theorem dX6_buddle_12 : decode cX6_buddle 12 = .ok (.if_icmp .lt 13, 3) := by decide +kernel
theorem dX6_buddle_15 : decode cX6_buddle 15 = .ok (.new 19, 3) := by decide +kernel
theorem dX6_buddle_18 : decode cX6_buddle 18 = .ok (.dup, 1) := by decide +kernel
theorem dX6_buddle_19 : decode cX6_buddle 19 = .ok (.ldc 149, 2) := by decide +kernel
theorem dX6_buddle_21 : decode cX6_buddle 21 = .ok (.invokespecial 23, 3) := by decide +kernel
theorem dX6_buddle_24 : decode cX6_buddle 24 = .ok (.athrow, 1) := by decide +kernel
theorem dX6_buddle_25 : decode cX6_buddle 25 = .ok (.aload_n 3, 1) := by decide +kernel
theorem dX6_buddle_26 : decode cX6_buddle 26 = .ok (.iload_n 2, 1) := by decide +kernel
theorem dX6_buddle_27 : decode cX6_buddle 27 = .ok (.invokevirtual 151, 3) := by decide +kernel
theorem dX6_buddle_30 : decode cX6_buddle 30 = .ok (.ireturn, 1) := by decide +kernel
theorem dX6_wash_0 : decode cX6_wash 0 = .ok (.aload_n 0, 1) := by decide +kernel
theorem dX6_wash_1 : decode cX6_wash 1 = .ok (.iload_n 1, 1) := by decide +kernel
theorem dX6_wash_2 : decode cX6_wash 2 = .ok (.invokevirtual 145, 3) := by decide +kernel
theorem dX6_wash_5 : decode cX6_wash 5 = .ok (.astore_n 3, 1) := by decide +kernel
theorem dX6_wash_6 : decode cX6_wash 6 = .ok (.iload_n 2, 1) := by decide +kernel
theorem dX6_wash_7 : decode cX6_wash 7 = .ok (.bipush 10, 2) := by decide +kernel
theorem dX6_wash_9 : decode cX6_wash 9 = .ok (.if_icmp .lt 9, 3) := by decide +kernel
theorem dX6_wash_12 : decode cX6_wash 12 = .ok (.iload_n 2, 1) := by decide +kernel
theorem dX6_wash_13 : decode cX6_wash 13 = .ok (.bipush 90, 2) := by decide +kernel
theorem dX6_wash_15 : decode cX6_wash 15 = .ok (.if_icmp .le 13, 3) := by decide +kernel
theorem dX6_wash_18 : decode cX6_wash 18 = .ok (.new 26, 3) := by decide +kernel
theorem dX6_wash_21 : decode cX6_wash 21 = .ok (.dup, 1) := by decide +kernel
theorem dX6_wash_22 : decode cX6_wash 22 = .ok (.ldc 156, 2) := by decide +kernel
theorem dX6_wash_24 : decode cX6_wash 24 = .ok (.invokespecial 30, 3) := by decide +kernel
theorem dX6_wash_27 : decode cX6_wash 27 = .ok (.athrow, 1) := by decide +kernel
theorem dX6_wash_28 : decode cX6_wash 28 = .ok (.aload_n 3, 1) := by decide +kernel
theorem dX6_wash_29 : decode cX6_wash 29 = .ok (.invokevirtual 158, 3) := by decide +kernel
theorem dX6_wash_32 : decode cX6_wash 32 = .ok (.ifCond .ne 13, 3) := by decide +kernel
theorem dX6_wash_35 : decode cX6_wash 35 = .ok (.new 44, 3) := by decide +kernel
theorem dX6_wash_38 : decode cX6_wash 38 = .ok (.dup, 1) := by decide +kernel
theorem dX6_wash_39 : decode cX6_wash 39 = .ok (.ldc 162, 2) := by decide +kernel
theorem dX6_wash_41 : decode cX6_wash 41 = .ok (.invokespecial 48, 3) := by decide +kernel
theorem dX6_wash_44 : decode cX6_wash 44 = .ok (.athrow, 1) := by decide +kernel
theorem dX6_wash_45 : decode cX6_wash 45 = .ok (.aload_n 0, 1) := by decide +kernel
theorem dX6_wash_46 : decode cX6_wash 46 = .ok (.invokevirtual 101, 3) := by decide +kernel
theorem dX6_wash_49 : decode cX6_wash 49 = .ok (.aload_n 0, 1) := by decide +kernel
theorem dX6_wash_50 : decode cX6_wash 50 = .ok (.getfield 10, 3) := by decide +kernel
theorem dX6_wash_53 : decode cX6_wash 53 = .ok (.aload_n 3, 1) := by decide +kernel
theorem dX6_wash_54 : decode cX6_wash 54 = .ok (.iload_n 2, 1) := by decide +kernel
theorem dX6_wash_55 : decode cX6_wash 55 = .ok (.invokevirtual 164, 3) := by decide +kernel
theorem dX6_wash_58 : decode cX6_wash 58 = .ok (.ireturn, 1) := by decide +kernel
theorem dX6_again_0 : decode cX6_again 0 = .ok (.aload_n 0, 1) := by decide +kernel
theorem dX6_again_1 : decode cX6_again 1 = .ok (.iload_n 1, 1) := by decide +kernel
theorem dX6_again_2 : decode cX6_again 2 = .ok (.invokevirtual 145, 3) := by decide +kernel
theorem dX6_again_5 : decode cX6_again 5 = .ok (.astore_n 2, 1) := by decide +kernel
theorem dX6_again_6 : decode cX6_again 6 = .ok (.aload_n 0, 1) := by decide +kernel
theorem dX6_again_7 : decode cX6_again 7 = .ok (.getfield 10, 3) := by decide +kernel
theorem dX6_again_10 : decode cX6_again 10 = .ok (.getfield 168, 3) := by decide +kernel
theorem dX6_again_13 : decode cX6_again 13 = .ok (.aload_n 2, 1) := by decide +kernel
theorem dX6_again_14 : decode cX6_again 14 = .ok (.sipush 6000, 3) := by decide +kernel
theorem dX6_again_17 : decode cX6_again 17 = .ok (.aload_n 2, 1) := by decide +kernel
theorem dX6_again_18 : decode cX6_again 18 = .ok (.invokevirtual 158, 3) := by decide +kernel
theorem dX6_again_21 : decode cX6_again 21 = .ok (.isub, 1) := by decide +kernel
theorem dX6_again_22 : decode cX6_again 22 = .ok (.invokevirtual 172, 3) := by decide +kernel
theorem dX6_again_25 : decode cX6_again 25 = .ok (.ireturn, 1) := by decide +kernel
theorem dX6_smelt_0 : decode cX6_smelt 0 = .ok (.iload_n 1, 1) := by decide +kernel
theorem dX6_smelt_1 : decode cX6_smelt 1 = .ok (.iconst 1, 1) := by decide +kernel
theorem dX6_smelt_2 : decode cX6_smelt 2 = .ok (.if_icmp .ge 13, 3) := by decide +kernel
theorem dX6_smelt_5 : decode cX6_smelt 5 = .ok (.new 26, 3) := by decide +kernel
theorem dX6_smelt_8 : decode cX6_smelt 8 = .ok (.dup, 1) := by decide +kernel
theorem dX6_smelt_9 : decode cX6_smelt 9 = .ok (.ldc 175, 2) := by decide +kernel
theorem dX6_smelt_11 : decode cX6_smelt 11 = .ok (.invokespecial 30, 3) := by decide +kernel
theorem dX6_smelt_14 : decode cX6_smelt 14 = .ok (.athrow, 1) := by decide +kernel
theorem dX6_smelt_15 : decode cX6_smelt 15 = .ok (.iload_n 1, 1) := by decide +kernel
theorem dX6_smelt_16 : decode cX6_smelt 16 = .ok (.aload_n 0, 1) := by decide +kernel
theorem dX6_smelt_17 : decode cX6_smelt 17 = .ok (.getfield 10, 3) := by decide +kernel
theorem dX6_smelt_20 : decode cX6_smelt 20 = .ok (.getfield 168, 3) := by decide +kernel
theorem dX6_smelt_23 : decode cX6_smelt 23 = .ok (.invokevirtual 158, 3) := by decide +kernel
theorem dX6_smelt_26 : decode cX6_smelt 26 = .ok (.if_icmp .le 13, 3) := by decide +kernel
theorem dX6_smelt_29 : decode cX6_smelt 29 = .ok (.new 44, 3) := by decide +kernel
theorem dX6_smelt_32 : decode cX6_smelt 32 = .ok (.dup, 1) := by decide +kernel
theorem dX6_smelt_33 : decode cX6_smelt 33 = .ok (.ldc 177, 2) := by decide +kernel
theorem dX6_smelt_35 : decode cX6_smelt 35 = .ok (.invokespecial 48, 3) := by decide +kernel
theorem dX6_smelt_38 : decode cX6_smelt 38 = .ok (.athrow, 1) := by decide +kernel
theorem dX6_smelt_39 : decode cX6_smelt 39 = .ok (.aload_n 0, 1) := by decide +kernel
theorem dX6_smelt_40 : decode cX6_smelt 40 = .ok (.getfield 10, 3) := by decide +kernel
theorem dX6_smelt_43 : decode cX6_smelt 43 = .ok (.iload_n 1, 1) := by decide +kernel
theorem dX6_smelt_44 : decode cX6_smelt 44 = .ok (.invokevirtual 179, 3) := by decide +kernel
theorem dX6_smelt_47 : decode cX6_smelt 47 = .ok (.ireturn, 1) := by decide +kernel
theorem dX6_foresee_0 : decode cX6_foresee 0 = .ok (.iload_n 1, 1) := by decide +kernel
theorem dX6_foresee_1 : decode cX6_foresee 1 = .ok (.bipush 100, 2) := by decide +kernel
theorem dX6_foresee_3 : decode cX6_foresee 3 = .ok (.invokestatic 130, 3) := by decide +kernel
theorem dX6_foresee_6 : decode cX6_foresee 6 = .ok (.iload_n 2, 1) := by decide +kernel
theorem dX6_foresee_7 : decode cX6_foresee 7 = .ok (.ifCond .lt 8, 3) := by decide +kernel
theorem dX6_foresee_10 : decode cX6_foresee 10 = .ok (.iload_n 2, 1) := by decide +kernel
theorem dX6_foresee_11 : decode cX6_foresee 11 = .ok (.iconst 5, 1) := by decide +kernel
theorem dX6_foresee_12 : decode cX6_foresee 12 = .ok (.if_icmp .lt 13, 3) := by decide +kernel
theorem dX6_foresee_15 : decode cX6_foresee 15 = .ok (.new 19, 3) := by decide +kernel
theorem dX6_foresee_18 : decode cX6_foresee 18 = .ok (.dup, 1) := by decide +kernel
theorem dX6_foresee_19 : decode cX6_foresee 19 = .ok (.ldc 182, 2) := by decide +kernel
theorem dX6_foresee_21 : decode cX6_foresee 21 = .ok (.invokespecial 23, 3) := by decide +kernel
theorem dX6_foresee_24 : decode cX6_foresee 24 = .ok (.athrow, 1) := by decide +kernel
theorem dX6_foresee_25 : decode cX6_foresee 25 = .ok (.aload_n 0, 1) := by decide +kernel
theorem dX6_foresee_26 : decode cX6_foresee 26 = .ok (.iload_n 1, 1) := by decide +kernel
theorem dX6_foresee_27 : decode cX6_foresee 27 = .ok (.invokevirtual 133, 3) := by decide +kernel
theorem dX6_foresee_30 : decode cX6_foresee 30 = .ok (.aload_n 0, 1) := by decide +kernel
theorem dX6_foresee_31 : decode cX6_foresee 31 = .ok (.getfield 16, 3) := by decide +kernel
theorem dX6_foresee_34 : decode cX6_foresee 34 = .ok (.aload_n 0, 1) := by decide +kernel
theorem dX6_foresee_35 : decode cX6_foresee 35 = .ok (.getfield 10, 3) := by decide +kernel
theorem dX6_foresee_38 : decode cX6_foresee 38 = .ok (.invokevirtual 184, 3) := by decide +kernel
theorem dX6_foresee_41 : decode cX6_foresee 41 = .ok (.aload_n 0, 1) := by decide +kernel
theorem dX6_foresee_42 : decode cX6_foresee 42 = .ok (.getfield 16, 3) := by decide +kernel
theorem dX6_foresee_45 : decode cX6_foresee 45 = .ok (.iload_n 1, 1) := by decide +kernel
theorem dX6_foresee_46 : decode cX6_foresee 46 = .ok (.invokevirtual 137, 3) := by decide +kernel
theorem dX6_foresee_49 : decode cX6_foresee 49 = .ok (.istore_n 3, 1) := by decide +kernel
theorem dX6_foresee_50 : decode cX6_foresee 50 = .ok (.iload_n 2, 1) := by decide +kernel
theorem dX6_foresee_51 : decode cX6_foresee 51 = .ok (.tableswitch 63 0 3 #[29, 31, 39, 47], 29) := by decide +kernel
theorem dX6_foresee_80 : decode cX6_foresee 80 = .ok (.iload_n 3, 1) := by decide +kernel
theorem dX6_foresee_81 : decode cX6_foresee 81 = .ok (.ireturn, 1) := by decide +kernel
theorem dX6_foresee_82 : decode cX6_foresee 82 = .ok (.aload_n 0, 1) := by decide +kernel
theorem dX6_foresee_83 : decode cX6_foresee 83 = .ok (.getfield 16, 3) := by decide +kernel
theorem dX6_foresee_86 : decode cX6_foresee 86 = .ok (.getfield 188, 3) := by decide +kernel
theorem dX6_foresee_89 : decode cX6_foresee 89 = .ok (.ireturn, 1) := by decide +kernel
theorem dX6_foresee_90 : decode cX6_foresee 90 = .ok (.aload_n 0, 1) := by decide +kernel
theorem dX6_foresee_91 : decode cX6_foresee 91 = .ok (.getfield 16, 3) := by decide +kernel
theorem dX6_foresee_94 : decode cX6_foresee 94 = .ok (.invokevirtual 191, 3) := by decide +kernel
theorem dX6_foresee_97 : decode cX6_foresee 97 = .ok (.ireturn, 1) := by decide +kernel
theorem dX6_foresee_98 : decode cX6_foresee 98 = .ok (.aload_n 0, 1) := by decide +kernel
theorem dX6_foresee_99 : decode cX6_foresee 99 = .ok (.getfield 16, 3) := by decide +kernel
theorem dX6_foresee_102 : decode cX6_foresee 102 = .ok (.getfield 194, 3) := by decide +kernel
theorem dX6_foresee_105 : decode cX6_foresee 105 = .ok (.aload_n 0, 1) := by decide +kernel
theorem dX6_foresee_106 : decode cX6_foresee 106 = .ok (.getfield 10, 3) := by decide +kernel
theorem dX6_foresee_109 : decode cX6_foresee 109 = .ok (.getfield 194, 3) := by decide +kernel
theorem dX6_foresee_112 : decode cX6_foresee 112 = .ok (.isub, 1) := by decide +kernel
theorem dX6_foresee_113 : decode cX6_foresee 113 = .ok (.ireturn, 1) := by decide +kernel
theorem dX6_foresee_114 : decode cX6_foresee 114 = .ok (.aload_n 0, 1) := by decide +kernel
theorem dX6_foresee_115 : decode cX6_foresee 115 = .ok (.getfield 16, 3) := by decide +kernel
theorem dX6_foresee_118 : decode cX6_foresee 118 = .ok (.getfield 104, 3) := by decide +kernel
theorem dX6_foresee_121 : decode cX6_foresee 121 = .ok (.invokevirtual 197, 3) := by decide +kernel
theorem dX6_foresee_124 : decode cX6_foresee 124 = .ok (.ireturn, 1) := by decide +kernel
theorem dX6_advise_0 : decode cX6_advise 0 = .ok (.iload_n 1, 1) := by decide +kernel
theorem dX6_advise_1 : decode cX6_advise 1 = .ok (.bipush 48, 2) := by decide +kernel
theorem dX6_advise_3 : decode cX6_advise 3 = .ok (.invokestatic 130, 3) := by decide +kernel
theorem dX6_advise_6 : decode cX6_advise 6 = .ok (.aload_n 0, 1) := by decide +kernel
theorem dX6_advise_7 : decode cX6_advise 7 = .ok (.iload_n 1, 1) := by decide +kernel
theorem dX6_advise_8 : decode cX6_advise 8 = .ok (.invokevirtual 133, 3) := by decide +kernel
theorem dX6_advise_11 : decode cX6_advise 11 = .ok (.iconst 0, 1) := by decide +kernel
theorem dX6_advise_12 : decode cX6_advise 12 = .ok (.istore_n 2, 1) := by decide +kernel
theorem dX6_advise_13 : decode cX6_advise 13 = .ok (.iconst (-1), 1) := by decide +kernel
theorem dX6_advise_14 : decode cX6_advise 14 = .ok (.istore_n 3, 1) := by decide +kernel
theorem dX6_advise_15 : decode cX6_advise 15 = .ok (.iconst 0, 1) := by decide +kernel
theorem dX6_advise_16 : decode cX6_advise 16 = .ok (.istore 4, 2) := by decide +kernel
theorem dX6_advise_18 : decode cX6_advise 18 = .ok (.iload 4, 2) := by decide +kernel
theorem dX6_advise_20 : decode cX6_advise 20 = .ok (.bipush 20, 2) := by decide +kernel
theorem dX6_advise_22 : decode cX6_advise 22 = .ok (.if_icmp .gt 59, 3) := by decide +kernel
theorem dX6_advise_25 : decode cX6_advise 25 = .ok (.aload_n 0, 1) := by decide +kernel
theorem dX6_advise_26 : decode cX6_advise 26 = .ok (.getfield 16, 3) := by decide +kernel
theorem dX6_advise_29 : decode cX6_advise 29 = .ok (.aload_n 0, 1) := by decide +kernel
theorem dX6_advise_30 : decode cX6_advise 30 = .ok (.getfield 10, 3) := by decide +kernel
theorem dX6_advise_33 : decode cX6_advise 33 = .ok (.invokevirtual 184, 3) := by decide +kernel
theorem dX6_advise_36 : decode cX6_advise 36 = .ok (.aload_n 0, 1) := by decide +kernel
theorem dX6_advise_37 : decode cX6_advise 37 = .ok (.getfield 16, 3) := by decide +kernel
theorem dX6_advise_40 : decode cX6_advise 40 = .ok (.iload 4, 2) := by decide +kernel
theorem dX6_advise_42 : decode cX6_advise 42 = .ok (.putfield 37, 3) := by decide +kernel
theorem dX6_advise_45 : decode cX6_advise 45 = .ok (.aload_n 0, 1) := by decide +kernel
theorem dX6_advise_46 : decode cX6_advise 46 = .ok (.getfield 16, 3) := by decide +kernel
theorem dX6_advise_49 : decode cX6_advise 49 = .ok (.iload_n 1, 1) := by decide +kernel
theorem dX6_advise_50 : decode cX6_advise 50 = .ok (.invokevirtual 137, 3) := by decide +kernel
theorem dX6_advise_53 : decode cX6_advise 53 = .ok (.pop, 1) := by decide +kernel
theorem dX6_advise_54 : decode cX6_advise 54 = .ok (.aload_n 0, 1) := by decide +kernel
theorem dX6_advise_55 : decode cX6_advise 55 = .ok (.getfield 16, 3) := by decide +kernel
theorem dX6_advise_58 : decode cX6_advise 58 = .ok (.invokevirtual 191, 3) := by decide +kernel
theorem dX6_advise_61 : decode cX6_advise 61 = .ok (.istore 5, 2) := by decide +kernel
theorem dX6_advise_63 : decode cX6_advise 63 = .ok (.iload 5, 2) := by decide +kernel
theorem dX6_advise_65 : decode cX6_advise 65 = .ok (.iload_n 3, 1) := by decide +kernel
theorem dX6_advise_66 : decode cX6_advise 66 = .ok (.if_icmp .le 9, 3) := by decide +kernel
theorem dX6_advise_69 : decode cX6_advise 69 = .ok (.iload 4, 2) := by decide +kernel
theorem dX6_advise_71 : decode cX6_advise 71 = .ok (.istore_n 2, 1) := by decide +kernel
theorem dX6_advise_72 : decode cX6_advise 72 = .ok (.iload 5, 2) := by decide +kernel
theorem dX6_advise_74 : decode cX6_advise 74 = .ok (.istore_n 3, 1) := by decide +kernel
theorem dX6_advise_75 : decode cX6_advise 75 = .ok (.iinc 4 1, 3) := by decide +kernel
theorem dX6_advise_78 : decode cX6_advise 78 = .ok (.goto (-60), 3) := by decide +kernel
theorem dX6_advise_81 : decode cX6_advise 81 = .ok (.iload_n 2, 1) := by decide +kernel
theorem dX6_advise_82 : decode cX6_advise 82 = .ok (.ireturn, 1) := by decide +kernel
theorem dX6_bestWater_0 : decode cX6_bestWater 0 = .ok (.aload_n 0, 1) := by decide +kernel
theorem dX6_bestWater_1 : decode cX6_bestWater 1 = .ok (.iload_n 1, 1) := by decide +kernel
theorem dX6_bestWater_2 : decode cX6_bestWater 2 = .ok (.invokevirtual 145, 3) := by decide +kernel
theorem dX6_bestWater_5 : decode cX6_bestWater 5 = .ok (.astore_n 3, 1) := by decide +kernel
theorem dX6_bestWater_6 : decode cX6_bestWater 6 = .ok (.iload_n 2, 1) := by decide +kernel
theorem dX6_bestWater_7 : decode cX6_bestWater 7 = .ok (.ifCond .ge 13, 3) := by decide +kernel
theorem dX6_bestWater_10 : decode cX6_bestWater 10 = .ok (.new 26, 3) := by decide +kernel
theorem dX6_bestWater_13 : decode cX6_bestWater 13 = .ok (.dup, 1) := by decide +kernel
theorem dX6_bestWater_14 : decode cX6_bestWater 14 = .ok (.ldc 200, 2) := by decide +kernel
theorem dX6_bestWater_16 : decode cX6_bestWater 16 = .ok (.invokespecial 30, 3) := by decide +kernel
theorem dX6_bestWater_19 : decode cX6_bestWater 19 = .ok (.athrow, 1) := by decide +kernel
theorem dX6_bestWater_20 : decode cX6_bestWater 20 = .ok (.aload_n 3, 1) := by decide +kernel
theorem dX6_bestWater_21 : decode cX6_bestWater 21 = .ok (.invokevirtual 158, 3) := by decide +kernel
theorem dX6_bestWater_24 : decode cX6_bestWater 24 = .ok (.ifCond .ne 5, 3) := by decide +kernel
theorem dX6_bestWater_27 : decode cX6_bestWater 27 = .ok (.iconst (-1), 1) := by decide +kernel
theorem dX6_bestWater_28 : decode cX6_bestWater 28 = .ok (.ireturn, 1) := by decide +kernel
theorem dX6_bestWater_29 : decode cX6_bestWater 29 = .ok (.iconst (-1), 1) := by decide +kernel
theorem dX6_bestWater_30 : decode cX6_bestWater 30 = .ok (.istore 4, 2) := by decide +kernel
theorem dX6_bestWater_32 : decode cX6_bestWater 32 = .ok (.iconst (-1), 1) := by decide +kernel
theorem dX6_bestWater_33 : decode cX6_bestWater 33 = .ok (.istore 5, 2) := by decide +kernel
theorem dX6_bestWater_35 : decode cX6_bestWater 35 = .ok (.bipush 10, 2) := by decide +kernel
theorem dX6_bestWater_37 : decode cX6_bestWater 37 = .ok (.istore 6, 2) := by decide +kernel
theorem dX6_bestWater_39 : decode cX6_bestWater 39 = .ok (.iload 6, 2) := by decide +kernel
theorem dX6_bestWater_41 : decode cX6_bestWater 41 = .ok (.bipush 90, 2) := by decide +kernel
theorem dX6_bestWater_43 : decode cX6_bestWater 43 = .ok (.if_icmp .gt 57, 3) := by decide +kernel
theorem dX6_bestWater_46 : decode cX6_bestWater 46 = .ok (.aload_n 3, 1) := by decide +kernel
theorem dX6_bestWater_47 : decode cX6_bestWater 47 = .ok (.getfield 202, 3) := by decide +kernel
theorem dX6_bestWater_50 : decode cX6_bestWater 50 = .ok (.iload 6, 2) := by decide +kernel
theorem dX6_bestWater_52 : decode cX6_bestWater 52 = .ok (.invokestatic 205, 3) := by decide +kernel
theorem dX6_bestWater_55 : decode cX6_bestWater 55 = .ok (.istore 7, 2) := by decide +kernel
theorem dX6_bestWater_57 : decode cX6_bestWater 57 = .ok (.aload_n 3, 1) := by decide +kernel
theorem dX6_bestWater_58 : decode cX6_bestWater 58 = .ok (.getfield 209, 3) := by decide +kernel
theorem dX6_bestWater_61 : decode cX6_bestWater 61 = .ok (.iload 6, 2) := by decide +kernel
theorem dX6_bestWater_63 : decode cX6_bestWater 63 = .ok (.invokestatic 212, 3) := by decide +kernel
theorem dX6_bestWater_66 : decode cX6_bestWater 66 = .ok (.iload 7, 2) := by decide +kernel
theorem dX6_bestWater_68 : decode cX6_bestWater 68 = .ok (.invokestatic 215, 3) := by decide +kernel
theorem dX6_bestWater_71 : decode cX6_bestWater 71 = .ok (.istore 8, 2) := by decide +kernel
theorem dX6_bestWater_73 : decode cX6_bestWater 73 = .ok (.iload 7, 2) := by decide +kernel
theorem dX6_bestWater_75 : decode cX6_bestWater 75 = .ok (.iload_n 2, 1) := by decide +kernel
theorem dX6_bestWater_76 : decode cX6_bestWater 76 = .ok (.if_icmp .lt 18, 3) := by decide +kernel
theorem dX6_bestWater_79 : decode cX6_bestWater 79 = .ok (.iload 8, 2) := by decide +kernel
theorem dX6_bestWater_81 : decode cX6_bestWater 81 = .ok (.iload 5, 2) := by decide +kernel
theorem dX6_bestWater_83 : decode cX6_bestWater 83 = .ok (.if_icmp .le 11, 3) := by decide +kernel
theorem dX6_bestWater_86 : decode cX6_bestWater 86 = .ok (.iload 6, 2) := by decide +kernel
theorem dX6_bestWater_88 : decode cX6_bestWater 88 = .ok (.istore 4, 2) := by decide +kernel
theorem dX6_bestWater_90 : decode cX6_bestWater 90 = .ok (.iload 8, 2) := by decide +kernel
theorem dX6_bestWater_92 : decode cX6_bestWater 92 = .ok (.istore 5, 2) := by decide +kernel
theorem dX6_bestWater_94 : decode cX6_bestWater 94 = .ok (.iinc 6 1, 3) := by decide +kernel
theorem dX6_bestWater_97 : decode cX6_bestWater 97 = .ok (.goto (-58), 3) := by decide +kernel
theorem dX6_bestWater_100 : decode cX6_bestWater 100 = .ok (.iload 4, 2) := by decide +kernel
theorem dX6_bestWater_102 : decode cX6_bestWater 102 = .ok (.ireturn, 1) := by decide +kernel
theorem dX6_share_0 : decode cX6_share 0 = .ok (.aload_n 0, 1) := by decide +kernel
theorem dX6_share_1 : decode cX6_share 1 = .ok (.getfield 10, 3) := by decide +kernel
theorem dX6_share_4 : decode cX6_share 4 = .ok (.getfield 218, 3) := by decide +kernel
theorem dX6_share_7 : decode cX6_share 7 = .ok (.i2l, 1) := by decide +kernel
theorem dX6_share_8 : decode cX6_share 8 = .ok (.aload_n 0, 1) := by decide +kernel
theorem dX6_share_9 : decode cX6_share 9 = .ok (.getfield 10, 3) := by decide +kernel
theorem dX6_share_12 : decode cX6_share 12 = .ok (.getfield 194, 3) := by decide +kernel
theorem dX6_share_15 : decode cX6_share 15 = .ok (.i2l, 1) := by decide +kernel
theorem dX6_share_16 : decode cX6_share 16 = .ok (.ladd, 1) := by decide +kernel
theorem dX6_share_17 : decode cX6_share 17 = .ok (.aload_n 0, 1) := by decide +kernel
theorem dX6_share_18 : decode cX6_share 18 = .ok (.getfield 10, 3) := by decide +kernel
theorem dX6_share_21 : decode cX6_share 21 = .ok (.getfield 221, 3) := by decide +kernel
theorem dX6_share_24 : decode cX6_share 24 = .ok (.getfield 202, 3) := by decide +kernel
theorem dX6_share_27 : decode cX6_share 27 = .ok (.i2l, 1) := by decide +kernel
theorem dX6_share_28 : decode cX6_share 28 = .ok (.ladd, 1) := by decide +kernel
theorem dX6_share_29 : decode cX6_share 29 = .ok (.lstore_n 1, 1) := by decide +kernel
theorem dX6_share_30 : decode cX6_share 30 = .ok (.lload_n 1, 1) := by decide +kernel
theorem dX6_share_31 : decode cX6_share 31 = .ok (.lconst 0, 1) := by decide +kernel
theorem dX6_share_32 : decode cX6_share 32 = .ok (.lcmp, 1) := by decide +kernel
theorem dX6_share_33 : decode cX6_share 33 = .ok (.ifCond .ne 5, 3) := by decide +kernel
theorem dX6_share_36 : decode cX6_share 36 = .ok (.dconst 0, 1) := by decide +kernel
theorem dX6_share_37 : decode cX6_share 37 = .ok (.dreturn, 1) := by decide +kernel
theorem dX6_share_38 : decode cX6_share 38 = .ok (.aload_n 0, 1) := by decide +kernel
theorem dX6_share_39 : decode cX6_share 39 = .ok (.getfield 10, 3) := by decide +kernel
theorem dX6_share_42 : decode cX6_share 42 = .ok (.getfield 218, 3) := by decide +kernel
theorem dX6_share_45 : decode cX6_share 45 = .ok (.i2d, 1) := by decide +kernel
theorem dX6_share_46 : decode cX6_share 46 = .ok (.lload_n 1, 1) := by decide +kernel
theorem dX6_share_47 : decode cX6_share 47 = .ok (.l2d, 1) := by decide +kernel
theorem dX6_share_48 : decode cX6_share 48 = .ok (.ddiv, 1) := by decide +kernel
theorem dX6_share_49 : decode cX6_share 49 = .ok (.dreturn, 1) := by decide +kernel
theorem dX6_digest_0 : decode cX6_digest 0 = .ok (.ldc2_w 224, 3) := by decide +kernel
theorem dX6_digest_3 : decode cX6_digest 3 = .ok (.lstore_n 1, 1) := by decide +kernel
theorem dX6_digest_4 : decode cX6_digest 4 = .ok (.iconst 0, 1) := by decide +kernel
theorem dX6_digest_5 : decode cX6_digest 5 = .ok (.istore_n 3, 1) := by decide +kernel
theorem dX6_digest_6 : decode cX6_digest 6 = .ok (.iload_n 3, 1) := by decide +kernel
theorem dX6_digest_7 : decode cX6_digest 7 = .ok (.bipush 14, 2) := by decide +kernel
theorem dX6_digest_9 : decode cX6_digest 9 = .ok (.if_icmp .ge 23, 3) := by decide +kernel
theorem dX6_digest_12 : decode cX6_digest 12 = .ok (.lload_n 1, 1) := by decide +kernel
theorem dX6_digest_13 : decode cX6_digest 13 = .ok (.aload_n 0, 1) := by decide +kernel
theorem dX6_digest_14 : decode cX6_digest 14 = .ok (.getfield 10, 3) := by decide +kernel
theorem dX6_digest_17 : decode cX6_digest 17 = .ok (.iload_n 3, 1) := by decide +kernel
theorem dX6_digest_18 : decode cX6_digest 18 = .ok (.invokevirtual 142, 3) := by decide +kernel
theorem dX6_digest_21 : decode cX6_digest 21 = .ok (.i2l, 1) := by decide +kernel
theorem dX6_digest_22 : decode cX6_digest 22 = .ok (.invokestatic 226, 3) := by decide +kernel
theorem dX6_digest_25 : decode cX6_digest 25 = .ok (.lstore_n 1, 1) := by decide +kernel
theorem dX6_digest_26 : decode cX6_digest 26 = .ok (.iinc 3 1, 3) := by decide +kernel
theorem dX6_digest_29 : decode cX6_digest 29 = .ok (.goto (-23), 3) := by decide +kernel
theorem dX6_digest_32 : decode cX6_digest 32 = .ok (.iconst 0, 1) := by decide +kernel
theorem dX6_digest_33 : decode cX6_digest 33 = .ok (.istore_n 3, 1) := by decide +kernel
theorem dX6_digest_34 : decode cX6_digest 34 = .ok (.iload_n 3, 1) := by decide +kernel
theorem dX6_digest_35 : decode cX6_digest 35 = .ok (.bipush 24, 2) := by decide +kernel
theorem dX6_digest_37 : decode cX6_digest 37 = .ok (.if_icmp .ge 24, 3) := by decide +kernel
theorem dX6_digest_40 : decode cX6_digest 40 = .ok (.lload_n 1, 1) := by decide +kernel
theorem dX6_digest_41 : decode cX6_digest 41 = .ok (.aload_n 0, 1) := by decide +kernel
theorem dX6_digest_42 : decode cX6_digest 42 = .ok (.getfield 10, 3) := by decide +kernel
theorem dX6_digest_45 : decode cX6_digest 45 = .ok (.getfield 31, 3) := by decide +kernel
theorem dX6_digest_48 : decode cX6_digest 48 = .ok (.iload_n 3, 1) := by decide +kernel
theorem dX6_digest_49 : decode cX6_digest 49 = .ok (.iaload, 1) := by decide +kernel
theorem dX6_digest_50 : decode cX6_digest 50 = .ok (.i2l, 1) := by decide +kernel
theorem dX6_digest_51 : decode cX6_digest 51 = .ok (.invokestatic 226, 3) := by decide +kernel
theorem dX6_digest_54 : decode cX6_digest 54 = .ok (.lstore_n 1, 1) := by decide +kernel
theorem dX6_digest_55 : decode cX6_digest 55 = .ok (.iinc 3 1, 3) := by decide +kernel
theorem dX6_digest_58 : decode cX6_digest 58 = .ok (.goto (-24), 3) := by decide +kernel
theorem dX6_digest_61 : decode cX6_digest 61 = .ok (.iconst 0, 1) := by decide +kernel
theorem dX6_digest_62 : decode cX6_digest 62 = .ok (.istore_n 3, 1) := by decide +kernel
theorem dX6_digest_63 : decode cX6_digest 63 = .ok (.iload_n 3, 1) := by decide +kernel
theorem dX6_digest_64 : decode cX6_digest 64 = .ok (.aload_n 0, 1) := by decide +kernel
theorem dX6_digest_65 : decode cX6_digest 65 = .ok (.getfield 10, 3) := by decide +kernel
theorem dX6_digest_68 : decode cX6_digest 68 = .ok (.getfield 41, 3) := by decide +kernel
theorem dX6_digest_71 : decode cX6_digest 71 = .ok (.if_icmp .ge 23, 3) := by decide +kernel
theorem dX6_digest_74 : decode cX6_digest 74 = .ok (.lload_n 1, 1) := by decide +kernel
theorem dX6_digest_75 : decode cX6_digest 75 = .ok (.aload_n 0, 1) := by decide +kernel
theorem dX6_digest_76 : decode cX6_digest 76 = .ok (.getfield 10, 3) := by decide +kernel
theorem dX6_digest_79 : decode cX6_digest 79 = .ok (.getfield 230, 3) := by decide +kernel
theorem dX6_digest_82 : decode cX6_digest 82 = .ok (.iload_n 3, 1) := by decide +kernel
theorem dX6_digest_83 : decode cX6_digest 83 = .ok (.aaload, 1) := by decide +kernel
theorem dX6_digest_84 : decode cX6_digest 84 = .ok (.invokestatic 234, 3) := by decide +kernel
theorem dX6_digest_87 : decode cX6_digest 87 = .ok (.lstore_n 1, 1) := by decide +kernel
theorem dX6_digest_88 : decode cX6_digest 88 = .ok (.iinc 3 1, 3) := by decide +kernel
theorem dX6_digest_91 : decode cX6_digest 91 = .ok (.goto (-28), 3) := by decide +kernel
theorem dX6_digest_94 : decode cX6_digest 94 = .ok (.iconst 0, 1) := by decide +kernel
theorem dX6_digest_95 : decode cX6_digest 95 = .ok (.istore_n 3, 1) := by decide +kernel
theorem dX6_digest_96 : decode cX6_digest 96 = .ok (.iload_n 3, 1) := by decide +kernel
theorem dX6_digest_97 : decode cX6_digest 97 = .ok (.aload_n 0, 1) := by decide +kernel
theorem dX6_digest_98 : decode cX6_digest 98 = .ok (.getfield 10, 3) := by decide +kernel
theorem dX6_digest_101 : decode cX6_digest 101 = .ok (.getfield 104, 3) := by decide +kernel
theorem dX6_digest_104 : decode cX6_digest 104 = .ok (.getfield 114, 3) := by decide +kernel
theorem dX6_digest_107 : decode cX6_digest 107 = .ok (.if_icmp .ge 25, 3) := by decide +kernel
theorem dX6_digest_110 : decode cX6_digest 110 = .ok (.lload_n 1, 1) := by decide +kernel
theorem dX6_digest_111 : decode cX6_digest 111 = .ok (.aload_n 0, 1) := by decide +kernel
theorem dX6_digest_112 : decode cX6_digest 112 = .ok (.getfield 10, 3) := by decide +kernel
theorem dX6_digest_115 : decode cX6_digest 115 = .ok (.getfield 104, 3) := by decide +kernel
theorem dX6_digest_118 : decode cX6_digest 118 = .ok (.iload_n 3, 1) := by decide +kernel
theorem dX6_digest_119 : decode cX6_digest 119 = .ok (.invokevirtual 121, 3) := by decide +kernel
theorem dX6_digest_122 : decode cX6_digest 122 = .ok (.invokestatic 238, 3) := by decide +kernel
theorem dX6_digest_125 : decode cX6_digest 125 = .ok (.lstore_n 1, 1) := by decide +kernel
theorem dX6_digest_126 : decode cX6_digest 126 = .ok (.iinc 3 1, 3) := by decide +kernel
theorem dX6_digest_129 : decode cX6_digest 129 = .ok (.goto (-33), 3) := by decide +kernel
theorem dX6_digest_132 : decode cX6_digest 132 = .ok (.iconst 0, 1) := by decide +kernel
theorem dX6_digest_133 : decode cX6_digest 133 = .ok (.istore_n 3, 1) := by decide +kernel
theorem dX6_digest_134 : decode cX6_digest 134 = .ok (.iload_n 3, 1) := by decide +kernel
theorem dX6_digest_135 : decode cX6_digest 135 = .ok (.iconst 3, 1) := by decide +kernel
theorem dX6_digest_136 : decode cX6_digest 136 = .ok (.if_icmp .ge 23, 3) := by decide +kernel
theorem dX6_digest_139 : decode cX6_digest 139 = .ok (.lload_n 1, 1) := by decide +kernel
theorem dX6_digest_140 : decode cX6_digest 140 = .ok (.aload_n 0, 1) := by decide +kernel
theorem dX6_digest_141 : decode cX6_digest 141 = .ok (.getfield 10, 3) := by decide +kernel
theorem dX6_digest_144 : decode cX6_digest 144 = .ok (.getfield 242, 3) := by decide +kernel
theorem dX6_digest_147 : decode cX6_digest 147 = .ok (.iload_n 3, 1) := by decide +kernel
theorem dX6_digest_148 : decode cX6_digest 148 = .ok (.aaload, 1) := by decide +kernel
theorem dX6_digest_149 : decode cX6_digest 149 = .ok (.invokestatic 246, 3) := by decide +kernel
theorem dX6_digest_152 : decode cX6_digest 152 = .ok (.lstore_n 1, 1) := by decide +kernel
theorem dX6_digest_153 : decode cX6_digest 153 = .ok (.iinc 3 1, 3) := by decide +kernel
theorem dX6_digest_156 : decode cX6_digest 156 = .ok (.goto (-22), 3) := by decide +kernel
theorem dX6_digest_159 : decode cX6_digest 159 = .ok (.lload_n 1, 1) := by decide +kernel
theorem dX6_digest_160 : decode cX6_digest 160 = .ok (.lreturn, 1) := by decide +kernel
theorem dX6_boxNumbered_0 : decode cX6_boxNumbered 0 = .ok (.iload_n 1, 1) := by decide +kernel
theorem dX6_boxNumbered_1 : decode cX6_boxNumbered 1 = .ok (.ifCond .lt 14, 3) := by decide +kernel
theorem dX6_boxNumbered_4 : decode cX6_boxNumbered 4 = .ok (.iload_n 1, 1) := by decide +kernel
theorem dX6_boxNumbered_5 : decode cX6_boxNumbered 5 = .ok (.aload_n 0, 1) := by decide +kernel
theorem dX6_boxNumbered_6 : decode cX6_boxNumbered 6 = .ok (.getfield 10, 3) := by decide +kernel
theorem dX6_boxNumbered_9 : decode cX6_boxNumbered 9 = .ok (.getfield 41, 3) := by decide +kernel
theorem dX6_boxNumbered_12 : decode cX6_boxNumbered 12 = .ok (.if_icmp .lt 13, 3) := by decide +kernel
theorem dX6_boxNumbered_15 : decode cX6_boxNumbered 15 = .ok (.new 19, 3) := by decide +kernel
theorem dX6_boxNumbered_18 : decode cX6_boxNumbered 18 = .ok (.dup, 1) := by decide +kernel
theorem dX6_boxNumbered_19 : decode cX6_boxNumbered 19 = .ok (.ldc 250, 2) := by decide +kernel
theorem dX6_boxNumbered_21 : decode cX6_boxNumbered 21 = .ok (.invokespecial 23, 3) := by decide +kernel
theorem dX6_boxNumbered_24 : decode cX6_boxNumbered 24 = .ok (.athrow, 1) := by decide +kernel
theorem dX6_boxNumbered_25 : decode cX6_boxNumbered 25 = .ok (.aload_n 0, 1) := by decide +kernel
theorem dX6_boxNumbered_26 : decode cX6_boxNumbered 26 = .ok (.getfield 10, 3) := by decide +kernel
theorem dX6_boxNumbered_29 : decode cX6_boxNumbered 29 = .ok (.getfield 230, 3) := by decide +kernel
theorem dX6_boxNumbered_32 : decode cX6_boxNumbered 32 = .ok (.iload_n 1, 1) := by decide +kernel
theorem dX6_boxNumbered_33 : decode cX6_boxNumbered 33 = .ok (.aaload, 1) := by decide +kernel
theorem dX6_boxNumbered_34 : decode cX6_boxNumbered 34 = .ok (.areturn, 1) := by decide +kernel
theorem dX6_buddleNumbered_0 : decode cX6_buddleNumbered 0 = .ok (.iload_n 1, 1) := by decide +kernel
theorem dX6_buddleNumbered_1 : decode cX6_buddleNumbered 1 = .ok (.ifCond .lt 8, 3) := by decide +kernel
theorem dX6_buddleNumbered_4 : decode cX6_buddleNumbered 4 = .ok (.iload_n 1, 1) := by decide +kernel
theorem dX6_buddleNumbered_5 : decode cX6_buddleNumbered 5 = .ok (.iconst 3, 1) := by decide +kernel
theorem dX6_buddleNumbered_6 : decode cX6_buddleNumbered 6 = .ok (.if_icmp .lt 13, 3) := by decide +kernel
theorem dX6_buddleNumbered_9 : decode cX6_buddleNumbered 9 = .ok (.new 19, 3) := by decide +kernel
theorem dX6_buddleNumbered_12 : decode cX6_buddleNumbered 12 = .ok (.dup, 1) := by decide +kernel
theorem dX6_buddleNumbered_13 : decode cX6_buddleNumbered 13 = .ok (.ldc 81, 2) := by decide +kernel
theorem dX6_buddleNumbered_15 : decode cX6_buddleNumbered 15 = .ok (.invokespecial 23, 3) := by decide +kernel
theorem dX6_buddleNumbered_18 : decode cX6_buddleNumbered 18 = .ok (.athrow, 1) := by decide +kernel
theorem dX6_buddleNumbered_19 : decode cX6_buddleNumbered 19 = .ok (.aload_n 0, 1) := by decide +kernel
theorem dX6_buddleNumbered_20 : decode cX6_buddleNumbered 20 = .ok (.getfield 10, 3) := by decide +kernel
theorem dX6_buddleNumbered_23 : decode cX6_buddleNumbered 23 = .ok (.getfield 242, 3) := by decide +kernel
theorem dX6_buddleNumbered_26 : decode cX6_buddleNumbered 26 = .ok (.iload_n 1, 1) := by decide +kernel
theorem dX6_buddleNumbered_27 : decode cX6_buddleNumbered 27 = .ok (.aaload, 1) := by decide +kernel
theorem dX6_buddleNumbered_28 : decode cX6_buddleNumbered 28 = .ok (.areturn, 1) := by decide +kernel
theorem dX6_refuseFullHopper_0 : decode cX6_refuseFullHopper 0 = .ok (.aload_n 0, 1) := by decide +kernel
theorem dX6_refuseFullHopper_1 : decode cX6_refuseFullHopper 1 = .ok (.getfield 10, 3) := by decide +kernel
theorem dX6_refuseFullHopper_4 : decode cX6_refuseFullHopper 4 = .ok (.getfield 104, 3) := by decide +kernel
theorem dX6_refuseFullHopper_7 : decode cX6_refuseFullHopper 7 = .ok (.getfield 114, 3) := by decide +kernel
theorem dX6_refuseFullHopper_10 : decode cX6_refuseFullHopper 10 = .ok (.bipush 30, 2) := by decide +kernel
theorem dX6_refuseFullHopper_12 : decode cX6_refuseFullHopper 12 = .ok (.if_icmp .lt 13, 3) := by decide +kernel
theorem dX6_refuseFullHopper_15 : decode cX6_refuseFullHopper 15 = .ok (.new 44, 3) := by decide +kernel
theorem dX6_refuseFullHopper_18 : decode cX6_refuseFullHopper 18 = .ok (.dup, 1) := by decide +kernel
theorem dX6_refuseFullHopper_19 : decode cX6_refuseFullHopper 19 = .ok (.ldc 252, 2) := by decide +kernel
theorem dX6_refuseFullHopper_21 : decode cX6_refuseFullHopper 21 = .ok (.invokespecial 48, 3) := by decide +kernel
theorem dX6_refuseFullHopper_24 : decode cX6_refuseFullHopper 24 = .ok (.athrow, 1) := by decide +kernel
theorem dX6_refuseFullHopper_25 : decode cX6_refuseFullHopper 25 = .ok (.return_, 1) := by decide +kernel
theorem dX6_refuseHours_0 : decode cX6_refuseHours 0 = .ok (.iload_n 0, 1) := by decide +kernel
theorem dX6_refuseHours_1 : decode cX6_refuseHours 1 = .ok (.iconst 1, 1) := by decide +kernel
theorem dX6_refuseHours_2 : decode cX6_refuseHours 2 = .ok (.if_icmp .lt 8, 3) := by decide +kernel
theorem dX6_refuseHours_5 : decode cX6_refuseHours 5 = .ok (.iload_n 0, 1) := by decide +kernel
theorem dX6_refuseHours_6 : decode cX6_refuseHours 6 = .ok (.iload_n 1, 1) := by decide +kernel
theorem dX6_refuseHours_7 : decode cX6_refuseHours 7 = .ok (.if_icmp .le 13, 3) := by decide +kernel
theorem dX6_refuseHours_10 : decode cX6_refuseHours 10 = .ok (.new 26, 3) := by decide +kernel
theorem dX6_refuseHours_13 : decode cX6_refuseHours 13 = .ok (.dup, 1) := by decide +kernel
theorem dX6_refuseHours_14 : decode cX6_refuseHours 14 = .ok (.ldc 254, 2) := by decide +kernel
theorem dX6_refuseHours_16 : decode cX6_refuseHours 16 = .ok (.invokespecial 30, 3) := by decide +kernel
theorem dX6_refuseHours_19 : decode cX6_refuseHours 19 = .ok (.athrow, 1) := by decide +kernel
theorem dX6_refuseHours_20 : decode cX6_refuseHours 20 = .ok (.return_, 1) := by decide +kernel
theorem dX6_refuseLateHour_0 : decode cX6_refuseLateHour 0 = .ok (.iload_n 1, 1) := by decide +kernel
theorem dX6_refuseLateHour_1 : decode cX6_refuseLateHour 1 = .ok (.sipush 5000, 3) := by decide +kernel
theorem dX6_refuseLateHour_4 : decode cX6_refuseLateHour 4 = .ok (.aload_n 0, 1) := by decide +kernel
theorem dX6_refuseLateHour_5 : decode cX6_refuseLateHour 5 = .ok (.getfield 10, 3) := by decide +kernel
theorem dX6_refuseLateHour_8 : decode cX6_refuseLateHour 8 = .ok (.getfield 256, 3) := by decide +kernel
theorem dX6_refuseLateHour_11 : decode cX6_refuseLateHour 11 = .ok (.isub, 1) := by decide +kernel
theorem dX6_refuseLateHour_12 : decode cX6_refuseLateHour 12 = .ok (.if_icmp .le 14, 3) := by decide +kernel
theorem dX6_refuseLateHour_15 : decode cX6_refuseLateHour 15 = .ok (.new 44, 3) := by decide +kernel
theorem dX6_refuseLateHour_18 : decode cX6_refuseLateHour 18 = .ok (.dup, 1) := by decide +kernel
theorem dX6_refuseLateHour_19 : decode cX6_refuseLateHour 19 = .ok (.ldc_w 259, 3) := by decide +kernel
theorem dX6_refuseLateHour_22 : decode cX6_refuseLateHour 22 = .ok (.invokespecial 48, 3) := by decide +kernel
theorem dX6_refuseLateHour_25 : decode cX6_refuseLateHour 25 = .ok (.athrow, 1) := by decide +kernel
theorem dX6_refuseLateHour_26 : decode cX6_refuseLateHour 26 = .ok (.return_, 1) := by decide +kernel
theorem dX6_join_0 : decode cX6_join 0 = .ok (.lload_n 0, 1) := by decide +kernel
theorem dX6_join_1 : decode cX6_join 1 = .ok (.ldc2_w 261, 3) := by decide +kernel
theorem dX6_join_4 : decode cX6_join 4 = .ok (.lmul, 1) := by decide +kernel
theorem dX6_join_5 : decode cX6_join 5 = .ok (.lload_n 2, 1) := by decide +kernel
theorem dX6_join_6 : decode cX6_join 6 = .ok (.ladd, 1) := by decide +kernel
theorem dX6_join_7 : decode cX6_join 7 = .ok (.lreturn, 1) := by decide +kernel
theorem dX6_joinBox_0 : decode cX6_joinBox 0 = .ok (.lload_n 0, 1) := by decide +kernel
theorem dX6_joinBox_1 : decode cX6_joinBox 1 = .ok (.lstore_n 3, 1) := by decide +kernel
theorem dX6_joinBox_2 : decode cX6_joinBox 2 = .ok (.iconst 0, 1) := by decide +kernel
theorem dX6_joinBox_3 : decode cX6_joinBox 3 = .ok (.istore 5, 2) := by decide +kernel
theorem dX6_joinBox_5 : decode cX6_joinBox 5 = .ok (.iload 5, 2) := by decide +kernel
theorem dX6_joinBox_7 : decode cX6_joinBox 7 = .ok (.bipush 12, 2) := by decide +kernel
theorem dX6_joinBox_9 : decode cX6_joinBox 9 = .ok (.if_icmp .ge 21, 3) := by decide +kernel
theorem dX6_joinBox_12 : decode cX6_joinBox 12 = .ok (.lload_n 3, 1) := by decide +kernel
theorem dX6_joinBox_13 : decode cX6_joinBox 13 = .ok (.aload_n 2, 1) := by decide +kernel
theorem dX6_joinBox_14 : decode cX6_joinBox 14 = .ok (.iload 5, 2) := by decide +kernel
theorem dX6_joinBox_16 : decode cX6_joinBox 16 = .ok (.invokevirtual 91, 3) := by decide +kernel
theorem dX6_joinBox_19 : decode cX6_joinBox 19 = .ok (.i2l, 1) := by decide +kernel
theorem dX6_joinBox_20 : decode cX6_joinBox 20 = .ok (.invokestatic 226, 3) := by decide +kernel
theorem dX6_joinBox_23 : decode cX6_joinBox 23 = .ok (.lstore_n 3, 1) := by decide +kernel
theorem dX6_joinBox_24 : decode cX6_joinBox 24 = .ok (.iinc 5 1, 3) := by decide +kernel
theorem dX6_joinBox_27 : decode cX6_joinBox 27 = .ok (.goto (-22), 3) := by decide +kernel
theorem dX6_joinBox_30 : decode cX6_joinBox 30 = .ok (.iconst 0, 1) := by decide +kernel
theorem dX6_joinBox_31 : decode cX6_joinBox 31 = .ok (.istore 5, 2) := by decide +kernel
theorem dX6_joinBox_33 : decode cX6_joinBox 33 = .ok (.iload 5, 2) := by decide +kernel
theorem dX6_joinBox_35 : decode cX6_joinBox 35 = .ok (.aload_n 2, 1) := by decide +kernel
theorem dX6_joinBox_36 : decode cX6_joinBox 36 = .ok (.getfield 57, 3) := by decide +kernel
theorem dX6_joinBox_39 : decode cX6_joinBox 39 = .ok (.if_icmp .ge 57, 3) := by decide +kernel
theorem dX6_joinBox_42 : decode cX6_joinBox 42 = .ok (.lload_n 3, 1) := by decide +kernel
theorem dX6_joinBox_43 : decode cX6_joinBox 43 = .ok (.aload_n 2, 1) := by decide +kernel
theorem dX6_joinBox_44 : decode cX6_joinBox 44 = .ok (.getfield 70, 3) := by decide +kernel
theorem dX6_joinBox_47 : decode cX6_joinBox 47 = .ok (.iload 5, 2) := by decide +kernel
theorem dX6_joinBox_49 : decode cX6_joinBox 49 = .ok (.aaload, 1) := by decide +kernel
theorem dX6_joinBox_50 : decode cX6_joinBox 50 = .ok (.getfield 263, 3) := by decide +kernel
theorem dX6_joinBox_53 : decode cX6_joinBox 53 = .ok (.i2l, 1) := by decide +kernel
theorem dX6_joinBox_54 : decode cX6_joinBox 54 = .ok (.invokestatic 226, 3) := by decide +kernel
theorem dX6_joinBox_57 : decode cX6_joinBox 57 = .ok (.lstore_n 3, 1) := by decide +kernel
theorem dX6_joinBox_58 : decode cX6_joinBox 58 = .ok (.lload_n 3, 1) := by decide +kernel
theorem dX6_joinBox_59 : decode cX6_joinBox 59 = .ok (.aload_n 2, 1) := by decide +kernel
theorem dX6_joinBox_60 : decode cX6_joinBox 60 = .ok (.getfield 70, 3) := by decide +kernel
theorem dX6_joinBox_63 : decode cX6_joinBox 63 = .ok (.iload 5, 2) := by decide +kernel
theorem dX6_joinBox_65 : decode cX6_joinBox 65 = .ok (.aaload, 1) := by decide +kernel
theorem dX6_joinBox_66 : decode cX6_joinBox 66 = .ok (.getfield 266, 3) := by decide +kernel
theorem dX6_joinBox_69 : decode cX6_joinBox 69 = .ok (.i2l, 1) := by decide +kernel
theorem dX6_joinBox_70 : decode cX6_joinBox 70 = .ok (.invokestatic 226, 3) := by decide +kernel
theorem dX6_joinBox_73 : decode cX6_joinBox 73 = .ok (.lstore_n 3, 1) := by decide +kernel
theorem dX6_joinBox_74 : decode cX6_joinBox 74 = .ok (.lload_n 3, 1) := by decide +kernel
theorem dX6_joinBox_75 : decode cX6_joinBox 75 = .ok (.aload_n 2, 1) := by decide +kernel
theorem dX6_joinBox_76 : decode cX6_joinBox 76 = .ok (.getfield 70, 3) := by decide +kernel
theorem dX6_joinBox_79 : decode cX6_joinBox 79 = .ok (.iload 5, 2) := by decide +kernel
theorem dX6_joinBox_81 : decode cX6_joinBox 81 = .ok (.aaload, 1) := by decide +kernel
theorem dX6_joinBox_82 : decode cX6_joinBox 82 = .ok (.getfield 74, 3) := by decide +kernel
theorem dX6_joinBox_85 : decode cX6_joinBox 85 = .ok (.i2l, 1) := by decide +kernel
theorem dX6_joinBox_86 : decode cX6_joinBox 86 = .ok (.invokestatic 226, 3) := by decide +kernel
theorem dX6_joinBox_89 : decode cX6_joinBox 89 = .ok (.lstore_n 3, 1) := by decide +kernel
theorem dX6_joinBox_90 : decode cX6_joinBox 90 = .ok (.iinc 5 1, 3) := by decide +kernel
theorem dX6_joinBox_93 : decode cX6_joinBox 93 = .ok (.goto (-60), 3) := by decide +kernel
theorem dX6_joinBox_96 : decode cX6_joinBox 96 = .ok (.lload_n 3, 1) := by decide +kernel
theorem dX6_joinBox_97 : decode cX6_joinBox 97 = .ok (.lreturn, 1) := by decide +kernel
theorem dX6_joinLot_0 : decode cX6_joinLot 0 = .ok (.lload_n 0, 1) := by decide +kernel
theorem dX6_joinLot_1 : decode cX6_joinLot 1 = .ok (.lstore_n 3, 1) := by decide +kernel
theorem dX6_joinLot_2 : decode cX6_joinLot 2 = .ok (.iconst 0, 1) := by decide +kernel
theorem dX6_joinLot_3 : decode cX6_joinLot 3 = .ok (.istore 5, 2) := by decide +kernel
theorem dX6_joinLot_5 : decode cX6_joinLot 5 = .ok (.iload 5, 2) := by decide +kernel
theorem dX6_joinLot_7 : decode cX6_joinLot 7 = .ok (.iconst 3, 1) := by decide +kernel
theorem dX6_joinLot_8 : decode cX6_joinLot 8 = .ok (.if_icmp .ge 21, 3) := by decide +kernel
theorem dX6_joinLot_11 : decode cX6_joinLot 11 = .ok (.lload_n 3, 1) := by decide +kernel
theorem dX6_joinLot_12 : decode cX6_joinLot 12 = .ok (.aload_n 2, 1) := by decide +kernel
theorem dX6_joinLot_13 : decode cX6_joinLot 13 = .ok (.iload 5, 2) := by decide +kernel
theorem dX6_joinLot_15 : decode cX6_joinLot 15 = .ok (.invokevirtual 125, 3) := by decide +kernel
theorem dX6_joinLot_18 : decode cX6_joinLot 18 = .ok (.i2l, 1) := by decide +kernel
theorem dX6_joinLot_19 : decode cX6_joinLot 19 = .ok (.invokestatic 226, 3) := by decide +kernel
theorem dX6_joinLot_22 : decode cX6_joinLot 22 = .ok (.lstore_n 3, 1) := by decide +kernel
theorem dX6_joinLot_23 : decode cX6_joinLot 23 = .ok (.iinc 5 1, 3) := by decide +kernel
theorem dX6_joinLot_26 : decode cX6_joinLot 26 = .ok (.goto (-21), 3) := by decide +kernel
theorem dX6_joinLot_29 : decode cX6_joinLot 29 = .ok (.lload_n 3, 1) := by decide +kernel
theorem dX6_joinLot_30 : decode cX6_joinLot 30 = .ok (.lreturn, 1) := by decide +kernel
theorem dX6_joinBuddle_0 : decode cX6_joinBuddle 0 = .ok (.lload_n 0, 1) := by decide +kernel
theorem dX6_joinBuddle_1 : decode cX6_joinBuddle 1 = .ok (.lstore_n 3, 1) := by decide +kernel
theorem dX6_joinBuddle_2 : decode cX6_joinBuddle 2 = .ok (.iconst 0, 1) := by decide +kernel
theorem dX6_joinBuddle_3 : decode cX6_joinBuddle 3 = .ok (.istore 5, 2) := by decide +kernel
theorem dX6_joinBuddle_5 : decode cX6_joinBuddle 5 = .ok (.iload 5, 2) := by decide +kernel
theorem dX6_joinBuddle_7 : decode cX6_joinBuddle 7 = .ok (.iconst 3, 1) := by decide +kernel
theorem dX6_joinBuddle_8 : decode cX6_joinBuddle 8 = .ok (.if_icmp .ge 21, 3) := by decide +kernel
theorem dX6_joinBuddle_11 : decode cX6_joinBuddle 11 = .ok (.lload_n 3, 1) := by decide +kernel
theorem dX6_joinBuddle_12 : decode cX6_joinBuddle 12 = .ok (.aload_n 2, 1) := by decide +kernel
theorem dX6_joinBuddle_13 : decode cX6_joinBuddle 13 = .ok (.iload 5, 2) := by decide +kernel
theorem dX6_joinBuddle_15 : decode cX6_joinBuddle 15 = .ok (.invokevirtual 151, 3) := by decide +kernel
theorem dX6_joinBuddle_18 : decode cX6_joinBuddle 18 = .ok (.i2l, 1) := by decide +kernel
theorem dX6_joinBuddle_19 : decode cX6_joinBuddle 19 = .ok (.invokestatic 226, 3) := by decide +kernel
theorem dX6_joinBuddle_22 : decode cX6_joinBuddle 22 = .ok (.lstore_n 3, 1) := by decide +kernel
theorem dX6_joinBuddle_23 : decode cX6_joinBuddle 23 = .ok (.iinc 5 1, 3) := by decide +kernel
theorem dX6_joinBuddle_26 : decode cX6_joinBuddle 26 = .ok (.goto (-21), 3) := by decide +kernel
theorem dX6_joinBuddle_29 : decode cX6_joinBuddle 29 = .ok (.lload_n 3, 1) := by decide +kernel
theorem dX6_joinBuddle_30 : decode cX6_joinBuddle 30 = .ok (.lreturn, 1) := by decide +kernel
theorem dX6_gradeOf_0 : decode cX6_gradeOf 0 = .ok (.iload_n 1, 1) := by decide +kernel
theorem dX6_gradeOf_1 : decode cX6_gradeOf 1 = .ok (.sipush 1000, 3) := by decide +kernel
theorem dX6_gradeOf_4 : decode cX6_gradeOf 4 = .ok (.iload_n 0, 1) := by decide +kernel
theorem dX6_gradeOf_5 : decode cX6_gradeOf 5 = .ok (.iload_n 1, 1) := by decide +kernel
theorem dX6_gradeOf_6 : decode cX6_gradeOf 6 = .ok (.iadd, 1) := by decide +kernel
theorem dX6_gradeOf_7 : decode cX6_gradeOf 7 = .ok (.invokestatic 269, 3) := by decide +kernel
theorem dX6_gradeOf_10 : decode cX6_gradeOf 10 = .ok (.ireturn, 1) := by decide +kernel
theorem dX6_tinOfHead_0 : decode cX6_tinOfHead 0 = .ok (.iload_n 0, 1) := by decide +kernel
theorem dX6_tinOfHead_1 : decode cX6_tinOfHead 1 = .ok (.bipush 100, 2) := by decide +kernel
theorem dX6_tinOfHead_3 : decode cX6_tinOfHead 3 = .ok (.iload_n 1, 1) := by decide +kernel
theorem dX6_tinOfHead_4 : decode cX6_tinOfHead 4 = .ok (.iconst 3, 1) := by decide +kernel
theorem dX6_tinOfHead_5 : decode cX6_tinOfHead 5 = .ok (.idiv, 1) := by decide +kernel
theorem dX6_tinOfHead_6 : decode cX6_tinOfHead 6 = .ok (.isub, 1) := by decide +kernel
theorem dX6_tinOfHead_7 : decode cX6_tinOfHead 7 = .ok (.imul, 1) := by decide +kernel
theorem dX6_tinOfHead_8 : decode cX6_tinOfHead 8 = .ok (.bipush 100, 2) := by decide +kernel
theorem dX6_tinOfHead_10 : decode cX6_tinOfHead 10 = .ok (.idiv, 1) := by decide +kernel
theorem dX6_tinOfHead_11 : decode cX6_tinOfHead 11 = .ok (.ireturn, 1) := by decide +kernel
theorem dX6_rockOfHead_0 : decode cX6_rockOfHead 0 = .ok (.iload_n 0, 1) := by decide +kernel
theorem dX6_rockOfHead_1 : decode cX6_rockOfHead 1 = .ok (.bipush 100, 2) := by decide +kernel
theorem dX6_rockOfHead_3 : decode cX6_rockOfHead 3 = .ok (.iload_n 1, 1) := by decide +kernel
theorem dX6_rockOfHead_4 : decode cX6_rockOfHead 4 = .ok (.isub, 1) := by decide +kernel
theorem dX6_rockOfHead_5 : decode cX6_rockOfHead 5 = .ok (.iconst 4, 1) := by decide +kernel
theorem dX6_rockOfHead_6 : decode cX6_rockOfHead 6 = .ok (.idiv, 1) := by decide +kernel
theorem dX6_rockOfHead_7 : decode cX6_rockOfHead 7 = .ok (.imul, 1) := by decide +kernel
theorem dX6_rockOfHead_8 : decode cX6_rockOfHead 8 = .ok (.bipush 100, 2) := by decide +kernel
theorem dX6_rockOfHead_10 : decode cX6_rockOfHead 10 = .ok (.idiv, 1) := by decide +kernel
theorem dX6_rockOfHead_11 : decode cX6_rockOfHead 11 = .ok (.ireturn, 1) := by decide +kernel
theorem dX6_partOf_0 : decode cX6_partOf 0 = .ok (.iload_n 2, 1) := by decide +kernel
theorem dX6_partOf_1 : decode cX6_partOf 1 = .ok (.iconst 1, 1) := by decide +kernel
theorem dX6_partOf_2 : decode cX6_partOf 2 = .ok (.if_icmp .ge 7, 3) := by decide +kernel
theorem dX6_partOf_5 : decode cX6_partOf 5 = .ok (.iconst 0, 1) := by decide +kernel
theorem dX6_partOf_6 : decode cX6_partOf 6 = .ok (.goto 12, 3) := by decide +kernel
theorem dX6_partOf_9 : decode cX6_partOf 9 = .ok (.iload_n 0, 1) := by decide +kernel
theorem dX6_partOf_10 : decode cX6_partOf 10 = .ok (.i2l, 1) := by decide +kernel
theorem dX6_partOf_11 : decode cX6_partOf 11 = .ok (.iload_n 1, 1) := by decide +kernel
theorem dX6_partOf_12 : decode cX6_partOf 12 = .ok (.i2l, 1) := by decide +kernel
theorem dX6_partOf_13 : decode cX6_partOf 13 = .ok (.lmul, 1) := by decide +kernel
theorem dX6_partOf_14 : decode cX6_partOf 14 = .ok (.iload_n 2, 1) := by decide +kernel
theorem dX6_partOf_15 : decode cX6_partOf 15 = .ok (.i2l, 1) := by decide +kernel
theorem dX6_partOf_16 : decode cX6_partOf 16 = .ok (.ldiv, 1) := by decide +kernel
theorem dX6_partOf_17 : decode cX6_partOf 17 = .ok (.l2i, 1) := by decide +kernel
theorem dX6_partOf_18 : decode cX6_partOf 18 = .ok (.ireturn, 1) := by decide +kernel
theorem dX7_init_0 : decode cX7_init 0 = .ok (.aload_n 0, 1) := by decide +kernel
theorem dX7_init_1 : decode cX7_init 1 = .ok (.invokespecial 3, 3) := by decide +kernel
theorem dX7_init_4 : decode cX7_init 4 = .ok (.aload_n 0, 1) := by decide +kernel
theorem dX7_init_5 : decode cX7_init 5 = .ok (.sipush 10000, 3) := by decide +kernel
theorem dX7_init_8 : decode cX7_init 8 = .ok (.putfield 9, 3) := by decide +kernel
theorem dX7_init_11 : decode cX7_init 11 = .ok (.aload_n 0, 1) := by decide +kernel
theorem dX7_init_12 : decode cX7_init 12 = .ok (.iconst 5, 1) := by decide +kernel
theorem dX7_init_13 : decode cX7_init 13 = .ok (.putfield 15, 3) := by decide +kernel
theorem dX7_init_16 : decode cX7_init 16 = .ok (.aload_n 0, 1) := by decide +kernel
theorem dX7_init_17 : decode cX7_init 17 = .ok (.bipush 24, 2) := by decide +kernel
theorem dX7_init_19 : decode cX7_init 19 = .ok (.newarray .int, 2) := by decide +kernel
theorem dX7_init_21 : decode cX7_init 21 = .ok (.putfield 18, 3) := by decide +kernel
theorem dX7_init_24 : decode cX7_init 24 = .ok (.aload_n 0, 1) := by decide +kernel
theorem dX7_init_25 : decode cX7_init 25 = .ok (.iconst 4, 1) := by decide +kernel
theorem dX7_init_26 : decode cX7_init 26 = .ok (.newarray .int, 2) := by decide +kernel
theorem dX7_init_28 : decode cX7_init 28 = .ok (.putfield 22, 3) := by decide +kernel
theorem dX7_init_31 : decode cX7_init 31 = .ok (.aload_n 0, 1) := by decide +kernel
theorem dX7_init_32 : decode cX7_init 32 = .ok (.bipush 16, 2) := by decide +kernel
theorem dX7_init_34 : decode cX7_init 34 = .ok (.newarray .int, 2) := by decide +kernel
theorem dX7_init_36 : decode cX7_init 36 = .ok (.putfield 25, 3) := by decide +kernel
theorem dX7_init_39 : decode cX7_init 39 = .ok (.aload_n 0, 1) := by decide +kernel
theorem dX7_init_40 : decode cX7_init 40 = .ok (.bipush 16, 2) := by decide +kernel
theorem dX7_init_42 : decode cX7_init 42 = .ok (.newarray .int, 2) := by decide +kernel
theorem dX7_init_44 : decode cX7_init 44 = .ok (.putfield 28, 3) := by decide +kernel
theorem dX7_init_47 : decode cX7_init 47 = .ok (.aload_n 0, 1) := by decide +kernel
theorem dX7_init_48 : decode cX7_init 48 = .ok (.bipush 16, 2) := by decide +kernel
theorem dX7_init_50 : decode cX7_init 50 = .ok (.newarray .int, 2) := by decide +kernel
theorem dX7_init_52 : decode cX7_init 52 = .ok (.putfield 31, 3) := by decide +kernel
theorem dX7_init_55 : decode cX7_init 55 = .ok (.aload_n 0, 1) := by decide +kernel
theorem dX7_init_56 : decode cX7_init 56 = .ok (.iconst 4, 1) := by decide +kernel
theorem dX7_init_57 : decode cX7_init 57 = .ok (.newarray .int, 2) := by decide +kernel
theorem dX7_init_59 : decode cX7_init 59 = .ok (.putfield 34, 3) := by decide +kernel
theorem dX7_init_62 : decode cX7_init 62 = .ok (.aload_n 0, 1) := by decide +kernel
theorem dX7_init_63 : decode cX7_init 63 = .ok (.iconst 4, 1) := by decide +kernel
theorem dX7_init_64 : decode cX7_init 64 = .ok (.newarray .int, 2) := by decide +kernel
theorem dX7_init_66 : decode cX7_init 66 = .ok (.putfield 37, 3) := by decide +kernel
theorem dX7_init_69 : decode cX7_init 69 = .ok (.aload_n 0, 1) := by decide +kernel
theorem dX7_init_70 : decode cX7_init 70 = .ok (.iconst 4, 1) := by decide +kernel
theorem dX7_init_71 : decode cX7_init 71 = .ok (.newarray .int, 2) := by decide +kernel
theorem dX7_init_73 : decode cX7_init 73 = .ok (.putfield 40, 3) := by decide +kernel
theorem dX7_init_76 : decode cX7_init 76 = .ok (.aload_n 0, 1) := by decide +kernel
theorem dX7_init_77 : decode cX7_init 77 = .ok (.iconst 4, 1) := by decide +kernel
theorem dX7_init_78 : decode cX7_init 78 = .ok (.newarray .int, 2) := by decide +kernel
theorem dX7_init_80 : decode cX7_init 80 = .ok (.putfield 43, 3) := by decide +kernel
theorem dX7_init_83 : decode cX7_init 83 = .ok (.aload_n 0, 1) := by decide +kernel
theorem dX7_init_84 : decode cX7_init 84 = .ok (.bipush 24, 2) := by decide +kernel
theorem dX7_init_86 : decode cX7_init 86 = .ok (.newarray .int, 2) := by decide +kernel
theorem dX7_init_88 : decode cX7_init 88 = .ok (.putfield 46, 3) := by decide +kernel
theorem dX7_init_91 : decode cX7_init 91 = .ok (.aload_n 0, 1) := by decide +kernel
theorem dX7_init_92 : decode cX7_init 92 = .ok (.bipush 90, 2) := by decide +kernel
theorem dX7_init_94 : decode cX7_init 94 = .ok (.newarray .int, 2) := by decide +kernel
theorem dX7_init_96 : decode cX7_init 96 = .ok (.putfield 49, 3) := by decide +kernel
theorem dX7_init_99 : decode cX7_init 99 = .ok (.aload_n 0, 1) := by decide +kernel
theorem dX7_init_100 : decode cX7_init 100 = .ok (.bipush 6, 2) := by decide +kernel
theorem dX7_init_102 : decode cX7_init 102 = .ok (.newarray .int, 2) := by decide +kernel
theorem dX7_init_104 : decode cX7_init 104 = .ok (.putfield 52, 3) := by decide +kernel
theorem dX7_init_107 : decode cX7_init 107 = .ok (.iconst 0, 1) := by decide +kernel
theorem dX7_init_108 : decode cX7_init 108 = .ok (.istore_n 1, 1) := by decide +kernel
theorem dX7_init_109 : decode cX7_init 109 = .ok (.iload_n 1, 1) := by decide +kernel
theorem dX7_init_110 : decode cX7_init 110 = .ok (.bipush 24, 2) := by decide +kernel
theorem dX7_init_112 : decode cX7_init 112 = .ok (.if_icmp .ge 18, 3) := by decide +kernel
theorem dX7_init_115 : decode cX7_init 115 = .ok (.aload_n 0, 1) := by decide +kernel
theorem dX7_init_116 : decode cX7_init 116 = .ok (.getfield 18, 3) := by decide +kernel
theorem dX7_init_119 : decode cX7_init 119 = .ok (.iload_n 1, 1) := by decide +kernel
theorem dX7_init_120 : decode cX7_init 120 = .ok (.sipush 200, 3) := by decide +kernel
theorem dX7_init_123 : decode cX7_init 123 = .ok (.iastore, 1) := by decide +kernel
theorem dX7_init_124 : decode cX7_init 124 = .ok (.iinc 1 1, 3) := by decide +kernel
theorem dX7_init_127 : decode cX7_init 127 = .ok (.goto (-18), 3) := by decide +kernel
theorem dX7_init_130 : decode cX7_init 130 = .ok (.return_, 1) := by decide +kernel
theorem dX7_copy_0 : decode cX7_copy 0 = .ok (.aload_n 0, 1) := by decide +kernel
theorem dX7_copy_1 : decode cX7_copy 1 = .ok (.iconst 0, 1) := by decide +kernel
theorem dX7_copy_2 : decode cX7_copy 2 = .ok (.aload_n 1, 1) := by decide +kernel
theorem dX7_copy_3 : decode cX7_copy 3 = .ok (.iconst 0, 1) := by decide +kernel
theorem dX7_copy_4 : decode cX7_copy 4 = .ok (.aload_n 0, 1) := by decide +kernel
theorem dX7_copy_5 : decode cX7_copy 5 = .ok (.arraylength, 1) := by decide +kernel
theorem dX7_copy_6 : decode cX7_copy 6 = .ok (.invokestatic 55, 3) := by decide +kernel
theorem dX7_copy_9 : decode cX7_copy 9 = .ok (.return_, 1) := by decide +kernel
theorem dX7_become_0 : decode cX7_become 0 = .ok (.aload_n 0, 1) := by decide +kernel
theorem dX7_become_1 : decode cX7_become 1 = .ok (.aload_n 1, 1) := by decide +kernel
theorem dX7_become_2 : decode cX7_become 2 = .ok (.getfield 61, 3) := by decide +kernel
theorem dX7_become_5 : decode cX7_become 5 = .ok (.putfield 61, 3) := by decide +kernel
theorem dX7_become_8 : decode cX7_become 8 = .ok (.aload_n 0, 1) := by decide +kernel
theorem dX7_become_9 : decode cX7_become 9 = .ok (.aload_n 1, 1) := by decide +kernel
theorem dX7_become_10 : decode cX7_become 10 = .ok (.getfield 9, 3) := by decide +kernel
theorem dX7_become_13 : decode cX7_become 13 = .ok (.putfield 9, 3) := by decide +kernel
theorem dX7_become_16 : decode cX7_become 16 = .ok (.aload_n 0, 1) := by decide +kernel
theorem dX7_become_17 : decode cX7_become 17 = .ok (.aload_n 1, 1) := by decide +kernel
theorem dX7_become_18 : decode cX7_become 18 = .ok (.getfield 15, 3) := by decide +kernel
theorem dX7_become_21 : decode cX7_become 21 = .ok (.putfield 15, 3) := by decide +kernel
theorem dX7_become_24 : decode cX7_become 24 = .ok (.aload_n 0, 1) := by decide +kernel
theorem dX7_become_25 : decode cX7_become 25 = .ok (.aload_n 1, 1) := by decide +kernel
theorem dX7_become_26 : decode cX7_become 26 = .ok (.getfield 64, 3) := by decide +kernel
theorem dX7_become_29 : decode cX7_become 29 = .ok (.putfield 64, 3) := by decide +kernel
theorem dX7_become_32 : decode cX7_become 32 = .ok (.aload_n 0, 1) := by decide +kernel
theorem dX7_become_33 : decode cX7_become 33 = .ok (.aload_n 1, 1) := by decide +kernel
theorem dX7_become_34 : decode cX7_become 34 = .ok (.getfield 67, 3) := by decide +kernel
theorem dX7_become_37 : decode cX7_become 37 = .ok (.putfield 67, 3) := by decide +kernel
theorem dX7_become_40 : decode cX7_become 40 = .ok (.aload_n 0, 1) := by decide +kernel
theorem dX7_become_41 : decode cX7_become 41 = .ok (.aload_n 1, 1) := by decide +kernel
theorem dX7_become_42 : decode cX7_become 42 = .ok (.getfield 70, 3) := by decide +kernel
theorem dX7_become_45 : decode cX7_become 45 = .ok (.putfield 70, 3) := by decide +kernel
theorem dX7_become_48 : decode cX7_become 48 = .ok (.aload_n 1, 1) := by decide +kernel
theorem dX7_become_49 : decode cX7_become 49 = .ok (.getfield 18, 3) := by decide +kernel
theorem dX7_become_52 : decode cX7_become 52 = .ok (.aload_n 0, 1) := by decide +kernel
theorem dX7_become_53 : decode cX7_become 53 = .ok (.getfield 18, 3) := by decide +kernel
theorem dX7_become_56 : decode cX7_become 56 = .ok (.invokestatic 73, 3) := by decide +kernel
theorem dX7_become_59 : decode cX7_become 59 = .ok (.aload_n 1, 1) := by decide +kernel
theorem dX7_become_60 : decode cX7_become 60 = .ok (.getfield 22, 3) := by decide +kernel
theorem dX7_become_63 : decode cX7_become 63 = .ok (.aload_n 0, 1) := by decide +kernel
theorem dX7_become_64 : decode cX7_become 64 = .ok (.getfield 22, 3) := by decide +kernel
theorem dX7_become_67 : decode cX7_become 67 = .ok (.invokestatic 73, 3) := by decide +kernel
theorem dX7_become_70 : decode cX7_become 70 = .ok (.aload_n 1, 1) := by decide +kernel
theorem dX7_become_71 : decode cX7_become 71 = .ok (.getfield 25, 3) := by decide +kernel
theorem dX7_become_74 : decode cX7_become 74 = .ok (.aload_n 0, 1) := by decide +kernel
theorem dX7_become_75 : decode cX7_become 75 = .ok (.getfield 25, 3) := by decide +kernel
theorem dX7_become_78 : decode cX7_become 78 = .ok (.invokestatic 73, 3) := by decide +kernel
theorem dX7_become_81 : decode cX7_become 81 = .ok (.aload_n 1, 1) := by decide +kernel
theorem dX7_become_82 : decode cX7_become 82 = .ok (.getfield 28, 3) := by decide +kernel
theorem dX7_become_85 : decode cX7_become 85 = .ok (.aload_n 0, 1) := by decide +kernel
theorem dX7_become_86 : decode cX7_become 86 = .ok (.getfield 28, 3) := by decide +kernel
theorem dX7_become_89 : decode cX7_become 89 = .ok (.invokestatic 73, 3) := by decide +kernel
theorem dX7_become_92 : decode cX7_become 92 = .ok (.aload_n 1, 1) := by decide +kernel
theorem dX7_become_93 : decode cX7_become 93 = .ok (.getfield 31, 3) := by decide +kernel
theorem dX7_become_96 : decode cX7_become 96 = .ok (.aload_n 0, 1) := by decide +kernel
theorem dX7_become_97 : decode cX7_become 97 = .ok (.getfield 31, 3) := by decide +kernel
theorem dX7_become_100 : decode cX7_become 100 = .ok (.invokestatic 73, 3) := by decide +kernel
theorem dX7_become_103 : decode cX7_become 103 = .ok (.aload_n 1, 1) := by decide +kernel
theorem dX7_become_104 : decode cX7_become 104 = .ok (.getfield 34, 3) := by decide +kernel
theorem dX7_become_107 : decode cX7_become 107 = .ok (.aload_n 0, 1) := by decide +kernel
theorem dX7_become_108 : decode cX7_become 108 = .ok (.getfield 34, 3) := by decide +kernel
theorem dX7_become_111 : decode cX7_become 111 = .ok (.invokestatic 73, 3) := by decide +kernel
theorem dX7_become_114 : decode cX7_become 114 = .ok (.aload_n 1, 1) := by decide +kernel
theorem dX7_become_115 : decode cX7_become 115 = .ok (.getfield 37, 3) := by decide +kernel
theorem dX7_become_118 : decode cX7_become 118 = .ok (.aload_n 0, 1) := by decide +kernel
theorem dX7_become_119 : decode cX7_become 119 = .ok (.getfield 37, 3) := by decide +kernel
theorem dX7_become_122 : decode cX7_become 122 = .ok (.invokestatic 73, 3) := by decide +kernel
theorem dX7_become_125 : decode cX7_become 125 = .ok (.aload_n 1, 1) := by decide +kernel
theorem dX7_become_126 : decode cX7_become 126 = .ok (.getfield 40, 3) := by decide +kernel
theorem dX7_become_129 : decode cX7_become 129 = .ok (.aload_n 0, 1) := by decide +kernel
theorem dX7_become_130 : decode cX7_become 130 = .ok (.getfield 40, 3) := by decide +kernel
theorem dX7_become_133 : decode cX7_become 133 = .ok (.invokestatic 73, 3) := by decide +kernel
theorem dX7_become_136 : decode cX7_become 136 = .ok (.aload_n 1, 1) := by decide +kernel
theorem dX7_become_137 : decode cX7_become 137 = .ok (.getfield 43, 3) := by decide +kernel
theorem dX7_become_140 : decode cX7_become 140 = .ok (.aload_n 0, 1) := by decide +kernel
theorem dX7_become_141 : decode cX7_become 141 = .ok (.getfield 43, 3) := by decide +kernel
theorem dX7_become_144 : decode cX7_become 144 = .ok (.invokestatic 73, 3) := by decide +kernel
theorem dX7_become_147 : decode cX7_become 147 = .ok (.aload_n 1, 1) := by decide +kernel
theorem dX7_become_148 : decode cX7_become 148 = .ok (.getfield 46, 3) := by decide +kernel
theorem dX7_become_151 : decode cX7_become 151 = .ok (.aload_n 0, 1) := by decide +kernel
theorem dX7_become_152 : decode cX7_become 152 = .ok (.getfield 46, 3) := by decide +kernel
theorem dX7_become_155 : decode cX7_become 155 = .ok (.invokestatic 73, 3) := by decide +kernel
theorem dX7_become_158 : decode cX7_become 158 = .ok (.aload_n 1, 1) := by decide +kernel
theorem dX7_become_159 : decode cX7_become 159 = .ok (.getfield 49, 3) := by decide +kernel
theorem dX7_become_162 : decode cX7_become 162 = .ok (.aload_n 0, 1) := by decide +kernel
theorem dX7_become_163 : decode cX7_become 163 = .ok (.getfield 49, 3) := by decide +kernel
theorem dX7_become_166 : decode cX7_become 166 = .ok (.invokestatic 73, 3) := by decide +kernel
theorem dX7_become_169 : decode cX7_become 169 = .ok (.aload_n 1, 1) := by decide +kernel
theorem dX7_become_170 : decode cX7_become 170 = .ok (.getfield 52, 3) := by decide +kernel
theorem dX7_become_173 : decode cX7_become 173 = .ok (.aload_n 0, 1) := by decide +kernel
theorem dX7_become_174 : decode cX7_become 174 = .ok (.getfield 52, 3) := by decide +kernel
theorem dX7_become_177 : decode cX7_become 177 = .ok (.invokestatic 73, 3) := by decide +kernel
theorem dX7_become_180 : decode cX7_become 180 = .ok (.return_, 1) := by decide +kernel
theorem dX7_load_0 : decode cX7_load 0 = .ok (.bipush 20, 2) := by decide +kernel
theorem dX7_load_2 : decode cX7_load 2 = .ok (.istore_n 1, 1) := by decide +kernel
theorem dX7_load_3 : decode cX7_load 3 = .ok (.iconst 0, 1) := by decide +kernel
theorem dX7_load_4 : decode cX7_load 4 = .ok (.istore_n 2, 1) := by decide +kernel
theorem dX7_load_5 : decode cX7_load 5 = .ok (.iload_n 2, 1) := by decide +kernel
theorem dX7_load_6 : decode cX7_load 6 = .ok (.aload_n 0, 1) := by decide +kernel
theorem dX7_load_7 : decode cX7_load 7 = .ok (.getfield 64, 3) := by decide +kernel
theorem dX7_load_10 : decode cX7_load 10 = .ok (.if_icmp .ge 53, 3) := by decide +kernel
theorem dX7_load_13 : decode cX7_load 13 = .ok (.iconst 0, 1) := by decide +kernel
theorem dX7_load_14 : decode cX7_load 14 = .ok (.istore_n 3, 1) := by decide +kernel
theorem dX7_load_15 : decode cX7_load 15 = .ok (.iload_n 3, 1) := by decide +kernel
theorem dX7_load_16 : decode cX7_load 16 = .ok (.aload_n 0, 1) := by decide +kernel
theorem dX7_load_17 : decode cX7_load 17 = .ok (.getfield 22, 3) := by decide +kernel
theorem dX7_load_20 : decode cX7_load 20 = .ok (.iload_n 2, 1) := by decide +kernel
theorem dX7_load_21 : decode cX7_load 21 = .ok (.iaload, 1) := by decide +kernel
theorem dX7_load_22 : decode cX7_load 22 = .ok (.if_icmp .ge 35, 3) := by decide +kernel
theorem dX7_load_25 : decode cX7_load 25 = .ok (.iload_n 1, 1) := by decide +kernel
theorem dX7_load_26 : decode cX7_load 26 = .ok (.aload_n 0, 1) := by decide +kernel
theorem dX7_load_27 : decode cX7_load 27 = .ok (.getfield 25, 3) := by decide +kernel
theorem dX7_load_30 : decode cX7_load 30 = .ok (.iconst 4, 1) := by decide +kernel
theorem dX7_load_31 : decode cX7_load 31 = .ok (.iload_n 2, 1) := by decide +kernel
theorem dX7_load_32 : decode cX7_load 32 = .ok (.imul, 1) := by decide +kernel
theorem dX7_load_33 : decode cX7_load 33 = .ok (.iload_n 3, 1) := by decide +kernel
theorem dX7_load_34 : decode cX7_load 34 = .ok (.iadd, 1) := by decide +kernel
theorem dX7_load_35 : decode cX7_load 35 = .ok (.iaload, 1) := by decide +kernel
theorem dX7_load_36 : decode cX7_load 36 = .ok (.aload_n 0, 1) := by decide +kernel
theorem dX7_load_37 : decode cX7_load 37 = .ok (.getfield 28, 3) := by decide +kernel
theorem dX7_load_40 : decode cX7_load 40 = .ok (.iconst 4, 1) := by decide +kernel
theorem dX7_load_41 : decode cX7_load 41 = .ok (.iload_n 2, 1) := by decide +kernel
theorem dX7_load_42 : decode cX7_load 42 = .ok (.imul, 1) := by decide +kernel
theorem dX7_load_43 : decode cX7_load 43 = .ok (.iload_n 3, 1) := by decide +kernel
theorem dX7_load_44 : decode cX7_load 44 = .ok (.iadd, 1) := by decide +kernel
theorem dX7_load_45 : decode cX7_load 45 = .ok (.iaload, 1) := by decide +kernel
theorem dX7_load_46 : decode cX7_load 46 = .ok (.imul, 1) := by decide +kernel
theorem dX7_load_47 : decode cX7_load 47 = .ok (.iconst 4, 1) := by decide +kernel
theorem dX7_load_48 : decode cX7_load 48 = .ok (.idiv, 1) := by decide +kernel
theorem dX7_load_49 : decode cX7_load 49 = .ok (.iadd, 1) := by decide +kernel
theorem dX7_load_50 : decode cX7_load 50 = .ok (.istore_n 1, 1) := by decide +kernel
theorem dX7_load_51 : decode cX7_load 51 = .ok (.iinc 3 1, 3) := by decide +kernel
theorem dX7_load_54 : decode cX7_load 54 = .ok (.goto (-39), 3) := by decide +kernel
theorem dX7_load_57 : decode cX7_load 57 = .ok (.iinc 2 1, 3) := by decide +kernel
theorem dX7_load_60 : decode cX7_load 60 = .ok (.goto (-55), 3) := by decide +kernel
theorem dX7_load_63 : decode cX7_load 63 = .ok (.iload_n 1, 1) := by decide +kernel
theorem dX7_load_64 : decode cX7_load 64 = .ok (.ireturn, 1) := by decide +kernel
theorem dX7_tinOf_0 : decode cX7_tinOf 0 = .ok (.aload_n 0, 1) := by decide +kernel
theorem dX7_tinOf_1 : decode cX7_tinOf 1 = .ok (.iload_n 1, 1) := by decide +kernel
theorem dX7_tinOf_2 : decode cX7_tinOf 2 = .ok (.iaload, 1) := by decide +kernel
theorem dX7_tinOf_3 : decode cX7_tinOf 3 = .ok (.i2l, 1) := by decide +kernel
theorem dX7_tinOf_4 : decode cX7_tinOf 4 = .ok (.aload_n 0, 1) := by decide +kernel
theorem dX7_tinOf_5 : decode cX7_tinOf 5 = .ok (.iload_n 1, 1) := by decide +kernel
theorem dX7_tinOf_6 : decode cX7_tinOf 6 = .ok (.iconst 1, 1) := by decide +kernel
theorem dX7_tinOf_7 : decode cX7_tinOf 7 = .ok (.iadd, 1) := by decide +kernel
theorem dX7_tinOf_8 : decode cX7_tinOf 8 = .ok (.iaload, 1) := by decide +kernel
theorem dX7_tinOf_9 : decode cX7_tinOf 9 = .ok (.i2l, 1) := by decide +kernel
theorem dX7_tinOf_10 : decode cX7_tinOf 10 = .ok (.ladd, 1) := by decide +kernel
theorem dX7_tinOf_11 : decode cX7_tinOf 11 = .ok (.lstore_n 3, 1) := by decide +kernel
theorem dX7_tinOf_12 : decode cX7_tinOf 12 = .ok (.lload_n 3, 1) := by decide +kernel
theorem dX7_tinOf_13 : decode cX7_tinOf 13 = .ok (.lconst 0, 1) := by decide +kernel
theorem dX7_tinOf_14 : decode cX7_tinOf 14 = .ok (.lcmp, 1) := by decide +kernel
theorem dX7_tinOf_15 : decode cX7_tinOf 15 = .ok (.ifCond .ne 7, 3) := by decide +kernel
theorem dX7_tinOf_18 : decode cX7_tinOf 18 = .ok (.iconst 0, 1) := by decide +kernel
theorem dX7_tinOf_19 : decode cX7_tinOf 19 = .ok (.goto 15, 3) := by decide +kernel
theorem dX7_tinOf_22 : decode cX7_tinOf 22 = .ok (.aload_n 0, 1) := by decide +kernel
theorem dX7_tinOf_23 : decode cX7_tinOf 23 = .ok (.iload_n 1, 1) := by decide +kernel
theorem dX7_tinOf_24 : decode cX7_tinOf 24 = .ok (.iconst 1, 1) := by decide +kernel
theorem dX7_tinOf_25 : decode cX7_tinOf 25 = .ok (.iadd, 1) := by decide +kernel
theorem dX7_tinOf_26 : decode cX7_tinOf 26 = .ok (.iaload, 1) := by decide +kernel
theorem dX7_tinOf_27 : decode cX7_tinOf 27 = .ok (.i2l, 1) := by decide +kernel
theorem dX7_tinOf_28 : decode cX7_tinOf 28 = .ok (.iload_n 2, 1) := by decide +kernel
theorem dX7_tinOf_29 : decode cX7_tinOf 29 = .ok (.i2l, 1) := by decide +kernel
theorem dX7_tinOf_30 : decode cX7_tinOf 30 = .ok (.lmul, 1) := by decide +kernel
theorem dX7_tinOf_31 : decode cX7_tinOf 31 = .ok (.lload_n 3, 1) := by decide +kernel
theorem dX7_tinOf_32 : decode cX7_tinOf 32 = .ok (.ldiv, 1) := by decide +kernel
theorem dX7_tinOf_33 : decode cX7_tinOf 33 = .ok (.l2i, 1) := by decide +kernel
theorem dX7_tinOf_34 : decode cX7_tinOf 34 = .ok (.ireturn, 1) := by decide +kernel
theorem dX7_move_0 : decode cX7_move 0 = .ok (.aload_n 0, 1) := by decide +kernel
theorem dX7_move_1 : decode cX7_move 1 = .ok (.iload_n 1, 1) := by decide +kernel
theorem dX7_move_2 : decode cX7_move 2 = .ok (.iload 4, 2) := by decide +kernel
theorem dX7_move_4 : decode cX7_move 4 = .ok (.invokestatic 77, 3) := by decide +kernel
theorem dX7_move_7 : decode cX7_move 7 = .ok (.istore 5, 2) := by decide +kernel
theorem dX7_move_9 : decode cX7_move 9 = .ok (.aload_n 0, 1) := by decide +kernel
theorem dX7_move_10 : decode cX7_move 10 = .ok (.iload_n 1, 1) := by decide +kernel
theorem dX7_move_11 : decode cX7_move 11 = .ok (.dup2, 1) := by decide +kernel
theorem dX7_move_12 : decode cX7_move 12 = .ok (.iaload, 1) := by decide +kernel
theorem dX7_move_13 : decode cX7_move 13 = .ok (.iload 4, 2) := by decide +kernel
theorem dX7_move_15 : decode cX7_move 15 = .ok (.iload 5, 2) := by decide +kernel
theorem dX7_move_17 : decode cX7_move 17 = .ok (.isub, 1) := by decide +kernel
theorem dX7_move_18 : decode cX7_move 18 = .ok (.isub, 1) := by decide +kernel
theorem dX7_move_19 : decode cX7_move 19 = .ok (.iastore, 1) := by decide +kernel
theorem dX7_move_20 : decode cX7_move 20 = .ok (.aload_n 0, 1) := by decide +kernel
theorem dX7_move_21 : decode cX7_move 21 = .ok (.iload_n 1, 1) := by decide +kernel
theorem dX7_move_22 : decode cX7_move 22 = .ok (.iconst 1, 1) := by decide +kernel
theorem dX7_move_23 : decode cX7_move 23 = .ok (.iadd, 1) := by decide +kernel
theorem dX7_move_24 : decode cX7_move 24 = .ok (.dup2, 1) := by decide +kernel
theorem dX7_move_25 : decode cX7_move 25 = .ok (.iaload, 1) := by decide +kernel
theorem dX7_move_26 : decode cX7_move 26 = .ok (.iload 5, 2) := by decide +kernel
theorem dX7_move_28 : decode cX7_move 28 = .ok (.isub, 1) := by decide +kernel
theorem dX7_move_29 : decode cX7_move 29 = .ok (.iastore, 1) := by decide +kernel
theorem dX7_move_30 : decode cX7_move 30 = .ok (.aload_n 2, 1) := by decide +kernel
theorem dX7_move_31 : decode cX7_move 31 = .ok (.iload_n 3, 1) := by decide +kernel
theorem dX7_move_32 : decode cX7_move 32 = .ok (.dup2, 1) := by decide +kernel
theorem dX7_move_33 : decode cX7_move 33 = .ok (.iaload, 1) := by decide +kernel
theorem dX7_move_34 : decode cX7_move 34 = .ok (.iload 4, 2) := by decide +kernel
theorem dX7_move_36 : decode cX7_move 36 = .ok (.iload 5, 2) := by decide +kernel
theorem dX7_move_38 : decode cX7_move 38 = .ok (.isub, 1) := by decide +kernel
theorem dX7_move_39 : decode cX7_move 39 = .ok (.iadd, 1) := by decide +kernel
theorem dX7_move_40 : decode cX7_move 40 = .ok (.iastore, 1) := by decide +kernel
theorem dX7_move_41 : decode cX7_move 41 = .ok (.aload_n 2, 1) := by decide +kernel
theorem dX7_move_42 : decode cX7_move 42 = .ok (.iload_n 3, 1) := by decide +kernel
theorem dX7_move_43 : decode cX7_move 43 = .ok (.iconst 1, 1) := by decide +kernel
theorem dX7_move_44 : decode cX7_move 44 = .ok (.iadd, 1) := by decide +kernel
theorem dX7_move_45 : decode cX7_move 45 = .ok (.dup2, 1) := by decide +kernel
theorem dX7_move_46 : decode cX7_move 46 = .ok (.iaload, 1) := by decide +kernel
theorem dX7_move_47 : decode cX7_move 47 = .ok (.iload 5, 2) := by decide +kernel
theorem dX7_move_49 : decode cX7_move 49 = .ok (.iadd, 1) := by decide +kernel
theorem dX7_move_50 : decode cX7_move 50 = .ok (.iastore, 1) := by decide +kernel
theorem dX7_move_51 : decode cX7_move 51 = .ok (.return_, 1) := by decide +kernel
theorem dX7_dropLot_0 : decode cX7_dropLot 0 = .ok (.aload_n 0, 1) := by decide +kernel
theorem dX7_dropLot_1 : decode cX7_dropLot 1 = .ok (.dup, 1) := by decide +kernel
theorem dX7_dropLot_2 : decode cX7_dropLot 2 = .ok (.getfield 67, 3) := by decide +kernel
theorem dX7_dropLot_5 : decode cX7_dropLot 5 = .ok (.iconst 1, 1) := by decide +kernel
theorem dX7_dropLot_6 : decode cX7_dropLot 6 = .ok (.isub, 1) := by decide +kernel
theorem dX7_dropLot_7 : decode cX7_dropLot 7 = .ok (.putfield 67, 3) := by decide +kernel
theorem dX7_dropLot_10 : decode cX7_dropLot 10 = .ok (.iconst 0, 1) := by decide +kernel
theorem dX7_dropLot_11 : decode cX7_dropLot 11 = .ok (.istore_n 1, 1) := by decide +kernel
theorem dX7_dropLot_12 : decode cX7_dropLot 12 = .ok (.iload_n 1, 1) := by decide +kernel
theorem dX7_dropLot_13 : decode cX7_dropLot 13 = .ok (.iconst 3, 1) := by decide +kernel
theorem dX7_dropLot_14 : decode cX7_dropLot 14 = .ok (.aload_n 0, 1) := by decide +kernel
theorem dX7_dropLot_15 : decode cX7_dropLot 15 = .ok (.getfield 67, 3) := by decide +kernel
theorem dX7_dropLot_18 : decode cX7_dropLot 18 = .ok (.imul, 1) := by decide +kernel
theorem dX7_dropLot_19 : decode cX7_dropLot 19 = .ok (.if_icmp .ge 23, 3) := by decide +kernel
theorem dX7_dropLot_22 : decode cX7_dropLot 22 = .ok (.aload_n 0, 1) := by decide +kernel
theorem dX7_dropLot_23 : decode cX7_dropLot 23 = .ok (.getfield 49, 3) := by decide +kernel
theorem dX7_dropLot_26 : decode cX7_dropLot 26 = .ok (.iload_n 1, 1) := by decide +kernel
theorem dX7_dropLot_27 : decode cX7_dropLot 27 = .ok (.aload_n 0, 1) := by decide +kernel
theorem dX7_dropLot_28 : decode cX7_dropLot 28 = .ok (.getfield 49, 3) := by decide +kernel
theorem dX7_dropLot_31 : decode cX7_dropLot 31 = .ok (.iload_n 1, 1) := by decide +kernel
theorem dX7_dropLot_32 : decode cX7_dropLot 32 = .ok (.iconst 3, 1) := by decide +kernel
theorem dX7_dropLot_33 : decode cX7_dropLot 33 = .ok (.iadd, 1) := by decide +kernel
theorem dX7_dropLot_34 : decode cX7_dropLot 34 = .ok (.iaload, 1) := by decide +kernel
theorem dX7_dropLot_35 : decode cX7_dropLot 35 = .ok (.iastore, 1) := by decide +kernel
theorem dX7_dropLot_36 : decode cX7_dropLot 36 = .ok (.iinc 1 1, 3) := by decide +kernel
theorem dX7_dropLot_39 : decode cX7_dropLot 39 = .ok (.goto (-27), 3) := by decide +kernel
theorem dX7_dropLot_42 : decode cX7_dropLot 42 = .ok (.return_, 1) := by decide +kernel
theorem dX7_addLot_0 : decode cX7_addLot 0 = .ok (.aload_n 0, 1) := by decide +kernel
theorem dX7_addLot_1 : decode cX7_addLot 1 = .ok (.getfield 49, 3) := by decide +kernel
theorem dX7_addLot_4 : decode cX7_addLot 4 = .ok (.iconst 3, 1) := by decide +kernel
theorem dX7_addLot_5 : decode cX7_addLot 5 = .ok (.aload_n 0, 1) := by decide +kernel
theorem dX7_addLot_6 : decode cX7_addLot 6 = .ok (.getfield 67, 3) := by decide +kernel
theorem dX7_addLot_9 : decode cX7_addLot 9 = .ok (.imul, 1) := by decide +kernel
theorem dX7_addLot_10 : decode cX7_addLot 10 = .ok (.iload_n 1, 1) := by decide +kernel
theorem dX7_addLot_11 : decode cX7_addLot 11 = .ok (.iastore, 1) := by decide +kernel
theorem dX7_addLot_12 : decode cX7_addLot 12 = .ok (.aload_n 0, 1) := by decide +kernel
theorem dX7_addLot_13 : decode cX7_addLot 13 = .ok (.getfield 49, 3) := by decide +kernel
theorem dX7_addLot_16 : decode cX7_addLot 16 = .ok (.iconst 3, 1) := by decide +kernel
theorem dX7_addLot_17 : decode cX7_addLot 17 = .ok (.aload_n 0, 1) := by decide +kernel
theorem dX7_addLot_18 : decode cX7_addLot 18 = .ok (.getfield 67, 3) := by decide +kernel
theorem dX7_addLot_21 : decode cX7_addLot 21 = .ok (.imul, 1) := by decide +kernel
theorem dX7_addLot_22 : decode cX7_addLot 22 = .ok (.iconst 1, 1) := by decide +kernel
theorem dX7_addLot_23 : decode cX7_addLot 23 = .ok (.iadd, 1) := by decide +kernel
theorem dX7_addLot_24 : decode cX7_addLot 24 = .ok (.iload_n 2, 1) := by decide +kernel
theorem dX7_addLot_25 : decode cX7_addLot 25 = .ok (.iastore, 1) := by decide +kernel
theorem dX7_addLot_26 : decode cX7_addLot 26 = .ok (.aload_n 0, 1) := by decide +kernel
theorem dX7_addLot_27 : decode cX7_addLot 27 = .ok (.getfield 49, 3) := by decide +kernel
theorem dX7_addLot_30 : decode cX7_addLot 30 = .ok (.iconst 3, 1) := by decide +kernel
theorem dX7_addLot_31 : decode cX7_addLot 31 = .ok (.aload_n 0, 1) := by decide +kernel
theorem dX7_addLot_32 : decode cX7_addLot 32 = .ok (.getfield 67, 3) := by decide +kernel
theorem dX7_addLot_35 : decode cX7_addLot 35 = .ok (.imul, 1) := by decide +kernel
theorem dX7_addLot_36 : decode cX7_addLot 36 = .ok (.iconst 2, 1) := by decide +kernel
theorem dX7_addLot_37 : decode cX7_addLot 37 = .ok (.iadd, 1) := by decide +kernel
theorem dX7_addLot_38 : decode cX7_addLot 38 = .ok (.iload_n 3, 1) := by decide +kernel
theorem dX7_addLot_39 : decode cX7_addLot 39 = .ok (.iastore, 1) := by decide +kernel
theorem dX7_addLot_40 : decode cX7_addLot 40 = .ok (.aload_n 0, 1) := by decide +kernel
theorem dX7_addLot_41 : decode cX7_addLot 41 = .ok (.dup, 1) := by decide +kernel
theorem dX7_addLot_42 : decode cX7_addLot 42 = .ok (.getfield 67, 3) := by decide +kernel
theorem dX7_addLot_45 : decode cX7_addLot 45 = .ok (.iconst 1, 1) := by decide +kernel
theorem dX7_addLot_46 : decode cX7_addLot 46 = .ok (.iadd, 1) := by decide +kernel
theorem dX7_addLot_47 : decode cX7_addLot 47 = .ok (.putfield 67, 3) := by decide +kernel
theorem dX7_addLot_50 : decode cX7_addLot 50 = .ok (.return_, 1) := by decide +kernel
theorem dX7_oreOf_0 : decode cX7_oreOf 0 = .ok (.aload_n 0, 1) := by decide +kernel
theorem dX7_oreOf_1 : decode cX7_oreOf 1 = .ok (.getfield 46, 3) := by decide +kernel
theorem dX7_oreOf_4 : decode cX7_oreOf 4 = .ok (.iconst 2, 1) := by decide +kernel
theorem dX7_oreOf_5 : decode cX7_oreOf 5 = .ok (.iconst 3, 1) := by decide +kernel
theorem dX7_oreOf_6 : decode cX7_oreOf 6 = .ok (.iload_n 1, 1) := by decide +kernel
theorem dX7_oreOf_7 : decode cX7_oreOf 7 = .ok (.imul, 1) := by decide +kernel
theorem dX7_oreOf_8 : decode cX7_oreOf 8 = .ok (.iload_n 2, 1) := by decide +kernel
theorem dX7_oreOf_9 : decode cX7_oreOf 9 = .ok (.iadd, 1) := by decide +kernel
theorem dX7_oreOf_10 : decode cX7_oreOf 10 = .ok (.imul, 1) := by decide +kernel
theorem dX7_oreOf_11 : decode cX7_oreOf 11 = .ok (.iaload, 1) := by decide +kernel
theorem dX7_oreOf_12 : decode cX7_oreOf 12 = .ok (.aload_n 0, 1) := by decide +kernel
theorem dX7_oreOf_13 : decode cX7_oreOf 13 = .ok (.getfield 46, 3) := by decide +kernel
theorem dX7_oreOf_16 : decode cX7_oreOf 16 = .ok (.iconst 2, 1) := by decide +kernel
theorem dX7_oreOf_17 : decode cX7_oreOf 17 = .ok (.iconst 3, 1) := by decide +kernel
theorem dX7_oreOf_18 : decode cX7_oreOf 18 = .ok (.iload_n 1, 1) := by decide +kernel
theorem dX7_oreOf_19 : decode cX7_oreOf 19 = .ok (.imul, 1) := by decide +kernel
theorem dX7_oreOf_20 : decode cX7_oreOf 20 = .ok (.iload_n 2, 1) := by decide +kernel
theorem dX7_oreOf_21 : decode cX7_oreOf 21 = .ok (.iadd, 1) := by decide +kernel
theorem dX7_oreOf_22 : decode cX7_oreOf 22 = .ok (.imul, 1) := by decide +kernel
theorem dX7_oreOf_23 : decode cX7_oreOf 23 = .ok (.iconst 1, 1) := by decide +kernel
theorem dX7_oreOf_24 : decode cX7_oreOf 24 = .ok (.iadd, 1) := by decide +kernel
theorem dX7_oreOf_25 : decode cX7_oreOf 25 = .ok (.iaload, 1) := by decide +kernel
theorem dX7_oreOf_26 : decode cX7_oreOf 26 = .ok (.iadd, 1) := by decide +kernel
theorem dX7_oreOf_27 : decode cX7_oreOf 27 = .ok (.ireturn, 1) := by decide +kernel
theorem dX7_inBuddle_0 : decode cX7_inBuddle 0 = .ok (.aload_n 0, 1) := by decide +kernel
theorem dX7_inBuddle_1 : decode cX7_inBuddle 1 = .ok (.getfield 52, 3) := by decide +kernel
theorem dX7_inBuddle_4 : decode cX7_inBuddle 4 = .ok (.iconst 2, 1) := by decide +kernel
theorem dX7_inBuddle_5 : decode cX7_inBuddle 5 = .ok (.iload_n 1, 1) := by decide +kernel
theorem dX7_inBuddle_6 : decode cX7_inBuddle 6 = .ok (.imul, 1) := by decide +kernel
theorem dX7_inBuddle_7 : decode cX7_inBuddle 7 = .ok (.iaload, 1) := by decide +kernel
theorem dX7_inBuddle_8 : decode cX7_inBuddle 8 = .ok (.aload_n 0, 1) := by decide +kernel
theorem dX7_inBuddle_9 : decode cX7_inBuddle 9 = .ok (.getfield 52, 3) := by decide +kernel
theorem dX7_inBuddle_12 : decode cX7_inBuddle 12 = .ok (.iconst 2, 1) := by decide +kernel
theorem dX7_inBuddle_13 : decode cX7_inBuddle 13 = .ok (.iload_n 1, 1) := by decide +kernel
theorem dX7_inBuddle_14 : decode cX7_inBuddle 14 = .ok (.imul, 1) := by decide +kernel
theorem dX7_inBuddle_15 : decode cX7_inBuddle 15 = .ok (.iconst 1, 1) := by decide +kernel
theorem dX7_inBuddle_16 : decode cX7_inBuddle 16 = .ok (.iadd, 1) := by decide +kernel
theorem dX7_inBuddle_17 : decode cX7_inBuddle 17 = .ok (.iaload, 1) := by decide +kernel
theorem dX7_inBuddle_18 : decode cX7_inBuddle 18 = .ok (.iadd, 1) := by decide +kernel
theorem dX7_inBuddle_19 : decode cX7_inBuddle 19 = .ok (.ireturn, 1) := by decide +kernel
theorem dX7_pass_0 : decode cX7_pass 0 = .ok (.aload_n 0, 1) := by decide +kernel
theorem dX7_pass_1 : decode cX7_pass 1 = .ok (.sipush 20000, 3) := by decide +kernel
theorem dX7_pass_4 : decode cX7_pass 4 = .ok (.aload_n 0, 1) := by decide +kernel
theorem dX7_pass_5 : decode cX7_pass 5 = .ok (.getfield 9, 3) := by decide +kernel
theorem dX7_pass_8 : decode cX7_pass 8 = .ok (.aload_n 0, 1) := by decide +kernel
theorem dX7_pass_9 : decode cX7_pass 9 = .ok (.getfield 18, 3) := by decide +kernel
theorem dX7_pass_12 : decode cX7_pass 12 = .ok (.aload_n 0, 1) := by decide +kernel
theorem dX7_pass_13 : decode cX7_pass 13 = .ok (.getfield 61, 3) := by decide +kernel
theorem dX7_pass_16 : decode cX7_pass 16 = .ok (.bipush 24, 2) := by decide +kernel
theorem dX7_pass_18 : decode cX7_pass 18 = .ok (.irem, 1) := by decide +kernel
theorem dX7_pass_19 : decode cX7_pass 19 = .ok (.iaload, 1) := by decide +kernel
theorem dX7_pass_20 : decode cX7_pass 20 = .ok (.iadd, 1) := by decide +kernel
theorem dX7_pass_21 : decode cX7_pass 21 = .ok (.invokestatic 81, 3) := by decide +kernel
theorem dX7_pass_24 : decode cX7_pass 24 = .ok (.putfield 9, 3) := by decide +kernel
theorem dX7_pass_27 : decode cX7_pass 27 = .ok (.bipush 40, 2) := by decide +kernel
theorem dX7_pass_29 : decode cX7_pass 29 = .ok (.aload_n 0, 1) := by decide +kernel
theorem dX7_pass_30 : decode cX7_pass 30 = .ok (.getfield 15, 3) := by decide +kernel
theorem dX7_pass_33 : decode cX7_pass 33 = .ok (.imul, 1) := by decide +kernel
theorem dX7_pass_34 : decode cX7_pass 34 = .ok (.aload_n 0, 1) := by decide +kernel
theorem dX7_pass_35 : decode cX7_pass 35 = .ok (.getfield 9, 3) := by decide +kernel
theorem dX7_pass_38 : decode cX7_pass 38 = .ok (.invokestatic 81, 3) := by decide +kernel
theorem dX7_pass_41 : decode cX7_pass 41 = .ok (.istore_n 1, 1) := by decide +kernel
theorem dX7_pass_42 : decode cX7_pass 42 = .ok (.aload_n 0, 1) := by decide +kernel
theorem dX7_pass_43 : decode cX7_pass 43 = .ok (.dup, 1) := by decide +kernel
theorem dX7_pass_44 : decode cX7_pass 44 = .ok (.getfield 9, 3) := by decide +kernel
theorem dX7_pass_47 : decode cX7_pass 47 = .ok (.iload_n 1, 1) := by decide +kernel
theorem dX7_pass_48 : decode cX7_pass 48 = .ok (.isub, 1) := by decide +kernel
theorem dX7_pass_49 : decode cX7_pass 49 = .ok (.putfield 9, 3) := by decide +kernel
theorem dX7_pass_52 : decode cX7_pass 52 = .ok (.bipush 10, 2) := by decide +kernel
theorem dX7_pass_54 : decode cX7_pass 54 = .ok (.iload_n 1, 1) := by decide +kernel
theorem dX7_pass_55 : decode cX7_pass 55 = .ok (.imul, 1) := by decide +kernel
theorem dX7_pass_56 : decode cX7_pass 56 = .ok (.aload_n 0, 1) := by decide +kernel
theorem dX7_pass_57 : decode cX7_pass 57 = .ok (.invokevirtual 87, 3) := by decide +kernel
theorem dX7_pass_60 : decode cX7_pass 60 = .ok (.idiv, 1) := by decide +kernel
theorem dX7_pass_61 : decode cX7_pass 61 = .ok (.istore_n 2, 1) := by decide +kernel
theorem dX7_pass_62 : decode cX7_pass 62 = .ok (.iconst 0, 1) := by decide +kernel
theorem dX7_pass_63 : decode cX7_pass 63 = .ok (.istore_n 3, 1) := by decide +kernel
theorem dX7_pass_64 : decode cX7_pass 64 = .ok (.iload_n 3, 1) := by decide +kernel
theorem dX7_pass_65 : decode cX7_pass 65 = .ok (.aload_n 0, 1) := by decide +kernel
theorem dX7_pass_66 : decode cX7_pass 66 = .ok (.getfield 64, 3) := by decide +kernel
theorem dX7_pass_69 : decode cX7_pass 69 = .ok (.if_icmp .ge 193, 3) := by decide +kernel
theorem dX7_pass_72 : decode cX7_pass 72 = .ok (.aload_n 0, 1) := by decide +kernel
theorem dX7_pass_73 : decode cX7_pass 73 = .ok (.iload_n 3, 1) := by decide +kernel
theorem dX7_pass_74 : decode cX7_pass 74 = .ok (.invokevirtual 91, 3) := by decide +kernel
theorem dX7_pass_77 : decode cX7_pass 77 = .ok (.aload_n 0, 1) := by decide +kernel
theorem dX7_pass_78 : decode cX7_pass 78 = .ok (.iload_n 3, 1) := by decide +kernel
theorem dX7_pass_79 : decode cX7_pass 79 = .ok (.iload_n 2, 1) := by decide +kernel
theorem dX7_pass_80 : decode cX7_pass 80 = .ok (.invokevirtual 95, 3) := by decide +kernel
theorem dX7_pass_83 : decode cX7_pass 83 = .ok (.iconst 2, 1) := by decide +kernel
theorem dX7_pass_84 : decode cX7_pass 84 = .ok (.iconst 3, 1) := by decide +kernel
theorem dX7_pass_85 : decode cX7_pass 85 = .ok (.iload_n 3, 1) := by decide +kernel
theorem dX7_pass_86 : decode cX7_pass 86 = .ok (.imul, 1) := by decide +kernel
theorem dX7_pass_87 : decode cX7_pass 87 = .ok (.iconst 2, 1) := by decide +kernel
theorem dX7_pass_88 : decode cX7_pass 88 = .ok (.iadd, 1) := by decide +kernel
theorem dX7_pass_89 : decode cX7_pass 89 = .ok (.imul, 1) := by decide +kernel
theorem dX7_pass_90 : decode cX7_pass 90 = .ok (.istore 4, 2) := by decide +kernel
theorem dX7_pass_92 : decode cX7_pass 92 = .ok (.aload_n 0, 1) := by decide +kernel
theorem dX7_pass_93 : decode cX7_pass 93 = .ok (.getfield 46, 3) := by decide +kernel
theorem dX7_pass_96 : decode cX7_pass 96 = .ok (.iload 4, 2) := by decide +kernel
theorem dX7_pass_98 : decode cX7_pass 98 = .ok (.iconst 1, 1) := by decide +kernel
theorem dX7_pass_99 : decode cX7_pass 99 = .ok (.iadd, 1) := by decide +kernel
theorem dX7_pass_100 : decode cX7_pass 100 = .ok (.iaload, 1) := by decide +kernel
theorem dX7_pass_101 : decode cX7_pass 101 = .ok (.ifCond .ne 7, 3) := by decide +kernel
theorem dX7_pass_104 : decode cX7_pass 104 = .ok (.iconst 0, 1) := by decide +kernel
theorem dX7_pass_105 : decode cX7_pass 105 = .ok (.goto 19, 3) := by decide +kernel
theorem dX7_pass_108 : decode cX7_pass 108 = .ok (.iconst 1, 1) := by decide +kernel
theorem dX7_pass_109 : decode cX7_pass 109 = .ok (.aload_n 0, 1) := by decide +kernel
theorem dX7_pass_110 : decode cX7_pass 110 = .ok (.getfield 46, 3) := by decide +kernel
theorem dX7_pass_113 : decode cX7_pass 113 = .ok (.iload 4, 2) := by decide +kernel
theorem dX7_pass_115 : decode cX7_pass 115 = .ok (.iconst 1, 1) := by decide +kernel
theorem dX7_pass_116 : decode cX7_pass 116 = .ok (.iadd, 1) := by decide +kernel
theorem dX7_pass_117 : decode cX7_pass 117 = .ok (.iaload, 1) := by decide +kernel
theorem dX7_pass_118 : decode cX7_pass 118 = .ok (.bipush 10, 2) := by decide +kernel
theorem dX7_pass_120 : decode cX7_pass 120 = .ok (.idiv, 1) := by decide +kernel
theorem dX7_pass_121 : decode cX7_pass 121 = .ok (.invokestatic 99, 3) := by decide +kernel
theorem dX7_pass_124 : decode cX7_pass 124 = .ok (.istore 5, 2) := by decide +kernel
theorem dX7_pass_126 : decode cX7_pass 126 = .ok (.aload_n 0, 1) := by decide +kernel
theorem dX7_pass_127 : decode cX7_pass 127 = .ok (.getfield 46, 3) := by decide +kernel
theorem dX7_pass_130 : decode cX7_pass 130 = .ok (.iload 4, 2) := by decide +kernel
theorem dX7_pass_132 : decode cX7_pass 132 = .ok (.iconst 1, 1) := by decide +kernel
theorem dX7_pass_133 : decode cX7_pass 133 = .ok (.iadd, 1) := by decide +kernel
theorem dX7_pass_134 : decode cX7_pass 134 = .ok (.dup2, 1) := by decide +kernel
theorem dX7_pass_135 : decode cX7_pass 135 = .ok (.iaload, 1) := by decide +kernel
theorem dX7_pass_136 : decode cX7_pass 136 = .ok (.iload 5, 2) := by decide +kernel
theorem dX7_pass_138 : decode cX7_pass 138 = .ok (.isub, 1) := by decide +kernel
theorem dX7_pass_139 : decode cX7_pass 139 = .ok (.iastore, 1) := by decide +kernel
theorem dX7_pass_140 : decode cX7_pass 140 = .ok (.aload_n 0, 1) := by decide +kernel
theorem dX7_pass_141 : decode cX7_pass 141 = .ok (.dup, 1) := by decide +kernel
theorem dX7_pass_142 : decode cX7_pass 142 = .ok (.getfield 70, 3) := by decide +kernel
theorem dX7_pass_145 : decode cX7_pass 145 = .ok (.iload 5, 2) := by decide +kernel
theorem dX7_pass_147 : decode cX7_pass 147 = .ok (.iadd, 1) := by decide +kernel
theorem dX7_pass_148 : decode cX7_pass 148 = .ok (.putfield 70, 3) := by decide +kernel
theorem dX7_pass_151 : decode cX7_pass 151 = .ok (.aload_n 0, 1) := by decide +kernel
theorem dX7_pass_152 : decode cX7_pass 152 = .ok (.iload_n 3, 1) := by decide +kernel
theorem dX7_pass_153 : decode cX7_pass 153 = .ok (.iconst 2, 1) := by decide +kernel
theorem dX7_pass_154 : decode cX7_pass 154 = .ok (.invokevirtual 102, 3) := by decide +kernel
theorem dX7_pass_157 : decode cX7_pass 157 = .ok (.iload_n 1, 1) := by decide +kernel
theorem dX7_pass_158 : decode cX7_pass 158 = .ok (.iconst 4, 1) := by decide +kernel
theorem dX7_pass_159 : decode cX7_pass 159 = .ok (.idiv, 1) := by decide +kernel
theorem dX7_pass_160 : decode cX7_pass 160 = .ok (.sipush 6000, 3) := by decide +kernel
theorem dX7_pass_163 : decode cX7_pass 163 = .ok (.aload_n 0, 1) := by decide +kernel
theorem dX7_pass_164 : decode cX7_pass 164 = .ok (.aload_n 0, 1) := by decide +kernel
theorem dX7_pass_165 : decode cX7_pass 165 = .ok (.getfield 37, 3) := by decide +kernel
theorem dX7_pass_168 : decode cX7_pass 168 = .ok (.iload_n 3, 1) := by decide +kernel
theorem dX7_pass_169 : decode cX7_pass 169 = .ok (.iaload, 1) := by decide +kernel
theorem dX7_pass_170 : decode cX7_pass 170 = .ok (.invokevirtual 105, 3) := by decide +kernel
theorem dX7_pass_173 : decode cX7_pass 173 = .ok (.isub, 1) := by decide +kernel
theorem dX7_pass_174 : decode cX7_pass 174 = .ok (.invokestatic 81, 3) := by decide +kernel
theorem dX7_pass_177 : decode cX7_pass 177 = .ok (.invokestatic 81, 3) := by decide +kernel
theorem dX7_pass_180 : decode cX7_pass 180 = .ok (.istore 6, 2) := by decide +kernel
theorem dX7_pass_182 : decode cX7_pass 182 = .ok (.aload_n 0, 1) := by decide +kernel
theorem dX7_pass_183 : decode cX7_pass 183 = .ok (.getfield 46, 3) := by decide +kernel
theorem dX7_pass_186 : decode cX7_pass 186 = .ok (.iload 4, 2) := by decide +kernel
theorem dX7_pass_188 : decode cX7_pass 188 = .ok (.aload_n 0, 1) := by decide +kernel
theorem dX7_pass_189 : decode cX7_pass 189 = .ok (.getfield 52, 3) := by decide +kernel
theorem dX7_pass_192 : decode cX7_pass 192 = .ok (.iconst 2, 1) := by decide +kernel
theorem dX7_pass_193 : decode cX7_pass 193 = .ok (.aload_n 0, 1) := by decide +kernel
theorem dX7_pass_194 : decode cX7_pass 194 = .ok (.getfield 37, 3) := by decide +kernel
theorem dX7_pass_197 : decode cX7_pass 197 = .ok (.iload_n 3, 1) := by decide +kernel
theorem dX7_pass_198 : decode cX7_pass 198 = .ok (.iaload, 1) := by decide +kernel
theorem dX7_pass_199 : decode cX7_pass 199 = .ok (.imul, 1) := by decide +kernel
theorem dX7_pass_200 : decode cX7_pass 200 = .ok (.iload 6, 2) := by decide +kernel
theorem dX7_pass_202 : decode cX7_pass 202 = .ok (.invokestatic 109, 3) := by decide +kernel
theorem dX7_pass_205 : decode cX7_pass 205 = .ok (.iconst 4, 1) := by decide +kernel
theorem dX7_pass_206 : decode cX7_pass 206 = .ok (.iload_n 3, 1) := by decide +kernel
theorem dX7_pass_207 : decode cX7_pass 207 = .ok (.imul, 1) := by decide +kernel
theorem dX7_pass_208 : decode cX7_pass 208 = .ok (.istore 7, 2) := by decide +kernel
theorem dX7_pass_210 : decode cX7_pass 210 = .ok (.iload 7, 2) := by decide +kernel
theorem dX7_pass_212 : decode cX7_pass 212 = .ok (.iconst 4, 1) := by decide +kernel
theorem dX7_pass_213 : decode cX7_pass 213 = .ok (.iload_n 3, 1) := by decide +kernel
theorem dX7_pass_214 : decode cX7_pass 214 = .ok (.imul, 1) := by decide +kernel
theorem dX7_pass_215 : decode cX7_pass 215 = .ok (.aload_n 0, 1) := by decide +kernel
theorem dX7_pass_216 : decode cX7_pass 216 = .ok (.getfield 22, 3) := by decide +kernel
theorem dX7_pass_219 : decode cX7_pass 219 = .ok (.iload_n 3, 1) := by decide +kernel
theorem dX7_pass_220 : decode cX7_pass 220 = .ok (.iaload, 1) := by decide +kernel
theorem dX7_pass_221 : decode cX7_pass 221 = .ok (.iadd, 1) := by decide +kernel
theorem dX7_pass_222 : decode cX7_pass 222 = .ok (.if_icmp .ge 34, 3) := by decide +kernel
theorem dX7_pass_225 : decode cX7_pass 225 = .ok (.aload_n 0, 1) := by decide +kernel
theorem dX7_pass_226 : decode cX7_pass 226 = .ok (.getfield 31, 3) := by decide +kernel
theorem dX7_pass_229 : decode cX7_pass 229 = .ok (.iload 7, 2) := by decide +kernel
theorem dX7_pass_231 : decode cX7_pass 231 = .ok (.bipush 90, 2) := by decide +kernel
theorem dX7_pass_233 : decode cX7_pass 233 = .ok (.aload_n 0, 1) := by decide +kernel
theorem dX7_pass_234 : decode cX7_pass 234 = .ok (.getfield 31, 3) := by decide +kernel
theorem dX7_pass_237 : decode cX7_pass 237 = .ok (.iload 7, 2) := by decide +kernel
theorem dX7_pass_239 : decode cX7_pass 239 = .ok (.iaload, 1) := by decide +kernel
theorem dX7_pass_240 : decode cX7_pass 240 = .ok (.iload_n 2, 1) := by decide +kernel
theorem dX7_pass_241 : decode cX7_pass 241 = .ok (.sipush 200, 3) := by decide +kernel
theorem dX7_pass_244 : decode cX7_pass 244 = .ok (.idiv, 1) := by decide +kernel
theorem dX7_pass_245 : decode cX7_pass 245 = .ok (.iadd, 1) := by decide +kernel
theorem dX7_pass_246 : decode cX7_pass 246 = .ok (.invokestatic 81, 3) := by decide +kernel
theorem dX7_pass_249 : decode cX7_pass 249 = .ok (.iastore, 1) := by decide +kernel
theorem dX7_pass_250 : decode cX7_pass 250 = .ok (.iinc 7 1, 3) := by decide +kernel
theorem dX7_pass_253 : decode cX7_pass 253 = .ok (.goto (-43), 3) := by decide +kernel
theorem dX7_pass_256 : decode cX7_pass 256 = .ok (.iinc 3 1, 3) := by decide +kernel
theorem dX7_pass_259 : decode cX7_pass 259 = .ok (.goto (-195), 3) := by decide +kernel
theorem dX7_pass_262 : decode cX7_pass 262 = .ok (.aload_n 0, 1) := by decide +kernel
theorem dX7_pass_263 : decode cX7_pass 263 = .ok (.dup, 1) := by decide +kernel
theorem dX7_pass_264 : decode cX7_pass 264 = .ok (.getfield 61, 3) := by decide +kernel
theorem dX7_pass_267 : decode cX7_pass 267 = .ok (.iconst 1, 1) := by decide +kernel
theorem dX7_pass_268 : decode cX7_pass 268 = .ok (.iadd, 1) := by decide +kernel
theorem dX7_pass_269 : decode cX7_pass 269 = .ok (.putfield 61, 3) := by decide +kernel
theorem dX7_pass_272 : decode cX7_pass 272 = .ok (.iload_n 2, 1) := by decide +kernel
theorem dX7_pass_273 : decode cX7_pass 273 = .ok (.ireturn, 1) := by decide +kernel
theorem dX7_eat_0 : decode cX7_eat 0 = .ok (.aload_n 0, 1) := by decide +kernel
theorem dX7_eat_1 : decode cX7_eat 1 = .ok (.getfield 34, 3) := by decide +kernel
theorem dX7_eat_4 : decode cX7_eat 4 = .ok (.iload_n 1, 1) := by decide +kernel
theorem dX7_eat_5 : decode cX7_eat 5 = .ok (.iaload, 1) := by decide +kernel
theorem dX7_eat_6 : decode cX7_eat 6 = .ok (.istore_n 2, 1) := by decide +kernel
theorem dX7_eat_7 : decode cX7_eat 7 = .ok (.iload_n 2, 1) := by decide +kernel
theorem dX7_eat_8 : decode cX7_eat 8 = .ok (.ifCond .le 84, 3) := by decide +kernel
theorem dX7_eat_11 : decode cX7_eat 11 = .ok (.aload_n 0, 1) := by decide +kernel
theorem dX7_eat_12 : decode cX7_eat 12 = .ok (.getfield 67, 3) := by decide +kernel
theorem dX7_eat_15 : decode cX7_eat 15 = .ok (.ifCond .le 77, 3) := by decide +kernel
theorem dX7_eat_18 : decode cX7_eat 18 = .ok (.iload_n 2, 1) := by decide +kernel
theorem dX7_eat_19 : decode cX7_eat 19 = .ok (.aload_n 0, 1) := by decide +kernel
theorem dX7_eat_20 : decode cX7_eat 20 = .ok (.getfield 49, 3) := by decide +kernel
theorem dX7_eat_23 : decode cX7_eat 23 = .ok (.iconst 0, 1) := by decide +kernel
theorem dX7_eat_24 : decode cX7_eat 24 = .ok (.iaload, 1) := by decide +kernel
theorem dX7_eat_25 : decode cX7_eat 25 = .ok (.aload_n 0, 1) := by decide +kernel
theorem dX7_eat_26 : decode cX7_eat 26 = .ok (.getfield 49, 3) := by decide +kernel
theorem dX7_eat_29 : decode cX7_eat 29 = .ok (.iconst 1, 1) := by decide +kernel
theorem dX7_eat_30 : decode cX7_eat 30 = .ok (.iaload, 1) := by decide +kernel
theorem dX7_eat_31 : decode cX7_eat 31 = .ok (.iadd, 1) := by decide +kernel
theorem dX7_eat_32 : decode cX7_eat 32 = .ok (.invokestatic 81, 3) := by decide +kernel
theorem dX7_eat_35 : decode cX7_eat 35 = .ok (.istore_n 3, 1) := by decide +kernel
theorem dX7_eat_36 : decode cX7_eat 36 = .ok (.aload_n 0, 1) := by decide +kernel
theorem dX7_eat_37 : decode cX7_eat 37 = .ok (.getfield 40, 3) := by decide +kernel
theorem dX7_eat_40 : decode cX7_eat 40 = .ok (.iload_n 1, 1) := by decide +kernel
theorem dX7_eat_41 : decode cX7_eat 41 = .ok (.aload_n 0, 1) := by decide +kernel
theorem dX7_eat_42 : decode cX7_eat 42 = .ok (.getfield 49, 3) := by decide +kernel
theorem dX7_eat_45 : decode cX7_eat 45 = .ok (.iconst 2, 1) := by decide +kernel
theorem dX7_eat_46 : decode cX7_eat 46 = .ok (.iaload, 1) := by decide +kernel
theorem dX7_eat_47 : decode cX7_eat 47 = .ok (.iastore, 1) := by decide +kernel
theorem dX7_eat_48 : decode cX7_eat 48 = .ok (.aload_n 0, 1) := by decide +kernel
theorem dX7_eat_49 : decode cX7_eat 49 = .ok (.getfield 49, 3) := by decide +kernel
theorem dX7_eat_52 : decode cX7_eat 52 = .ok (.iconst 0, 1) := by decide +kernel
theorem dX7_eat_53 : decode cX7_eat 53 = .ok (.aload_n 0, 1) := by decide +kernel
theorem dX7_eat_54 : decode cX7_eat 54 = .ok (.getfield 46, 3) := by decide +kernel
theorem dX7_eat_57 : decode cX7_eat 57 = .ok (.bipush 6, 2) := by decide +kernel
theorem dX7_eat_59 : decode cX7_eat 59 = .ok (.iload_n 1, 1) := by decide +kernel
theorem dX7_eat_60 : decode cX7_eat 60 = .ok (.imul, 1) := by decide +kernel
theorem dX7_eat_61 : decode cX7_eat 61 = .ok (.iload_n 3, 1) := by decide +kernel
theorem dX7_eat_62 : decode cX7_eat 62 = .ok (.invokestatic 109, 3) := by decide +kernel
theorem dX7_eat_65 : decode cX7_eat 65 = .ok (.iload_n 2, 1) := by decide +kernel
theorem dX7_eat_66 : decode cX7_eat 66 = .ok (.iload_n 3, 1) := by decide +kernel
theorem dX7_eat_67 : decode cX7_eat 67 = .ok (.isub, 1) := by decide +kernel
theorem dX7_eat_68 : decode cX7_eat 68 = .ok (.istore_n 2, 1) := by decide +kernel
theorem dX7_eat_69 : decode cX7_eat 69 = .ok (.aload_n 0, 1) := by decide +kernel
theorem dX7_eat_70 : decode cX7_eat 70 = .ok (.getfield 49, 3) := by decide +kernel
theorem dX7_eat_73 : decode cX7_eat 73 = .ok (.iconst 0, 1) := by decide +kernel
theorem dX7_eat_74 : decode cX7_eat 74 = .ok (.iaload, 1) := by decide +kernel
theorem dX7_eat_75 : decode cX7_eat 75 = .ok (.aload_n 0, 1) := by decide +kernel
theorem dX7_eat_76 : decode cX7_eat 76 = .ok (.getfield 49, 3) := by decide +kernel
theorem dX7_eat_79 : decode cX7_eat 79 = .ok (.iconst 1, 1) := by decide +kernel
theorem dX7_eat_80 : decode cX7_eat 80 = .ok (.iaload, 1) := by decide +kernel
theorem dX7_eat_81 : decode cX7_eat 81 = .ok (.iadd, 1) := by decide +kernel
theorem dX7_eat_82 : decode cX7_eat 82 = .ok (.ifCond .ne 7, 3) := by decide +kernel
theorem dX7_eat_85 : decode cX7_eat 85 = .ok (.aload_n 0, 1) := by decide +kernel
theorem dX7_eat_86 : decode cX7_eat 86 = .ok (.invokevirtual 113, 3) := by decide +kernel
theorem dX7_eat_89 : decode cX7_eat 89 = .ok (.goto (-82), 3) := by decide +kernel
theorem dX7_eat_92 : decode cX7_eat 92 = .ok (.return_, 1) := by decide +kernel
theorem dX7_blow_0 : decode cX7_blow 0 = .ok (.aload_n 0, 1) := by decide +kernel
theorem dX7_blow_1 : decode cX7_blow 1 = .ok (.getfield 43, 3) := by decide +kernel
theorem dX7_blow_4 : decode cX7_blow 4 = .ok (.iload_n 1, 1) := by decide +kernel
theorem dX7_blow_5 : decode cX7_blow 5 = .ok (.iconst 0, 1) := by decide +kernel
theorem dX7_blow_6 : decode cX7_blow 6 = .ok (.iastore, 1) := by decide +kernel
theorem dX7_blow_7 : decode cX7_blow 7 = .ok (.iconst 4, 1) := by decide +kernel
theorem dX7_blow_8 : decode cX7_blow 8 = .ok (.iload_n 1, 1) := by decide +kernel
theorem dX7_blow_9 : decode cX7_blow 9 = .ok (.imul, 1) := by decide +kernel
theorem dX7_blow_10 : decode cX7_blow 10 = .ok (.istore_n 3, 1) := by decide +kernel
theorem dX7_blow_11 : decode cX7_blow 11 = .ok (.iload_n 3, 1) := by decide +kernel
theorem dX7_blow_12 : decode cX7_blow 12 = .ok (.iconst 4, 1) := by decide +kernel
theorem dX7_blow_13 : decode cX7_blow 13 = .ok (.iload_n 1, 1) := by decide +kernel
theorem dX7_blow_14 : decode cX7_blow 14 = .ok (.imul, 1) := by decide +kernel
theorem dX7_blow_15 : decode cX7_blow 15 = .ok (.aload_n 0, 1) := by decide +kernel
theorem dX7_blow_16 : decode cX7_blow 16 = .ok (.getfield 22, 3) := by decide +kernel
theorem dX7_blow_19 : decode cX7_blow 19 = .ok (.iload_n 1, 1) := by decide +kernel
theorem dX7_blow_20 : decode cX7_blow 20 = .ok (.iaload, 1) := by decide +kernel
theorem dX7_blow_21 : decode cX7_blow 21 = .ok (.iadd, 1) := by decide +kernel
theorem dX7_blow_22 : decode cX7_blow 22 = .ok (.if_icmp .ge 47, 3) := by decide +kernel
theorem dX7_blow_25 : decode cX7_blow 25 = .ok (.aload_n 0, 1) := by decide +kernel
theorem dX7_blow_26 : decode cX7_blow 26 = .ok (.getfield 43, 3) := by decide +kernel
theorem dX7_blow_29 : decode cX7_blow 29 = .ok (.iload_n 1, 1) := by decide +kernel
theorem dX7_blow_30 : decode cX7_blow 30 = .ok (.dup2, 1) := by decide +kernel
theorem dX7_blow_31 : decode cX7_blow 31 = .ok (.iaload, 1) := by decide +kernel
theorem dX7_blow_32 : decode cX7_blow 32 = .ok (.aload_n 0, 1) := by decide +kernel
theorem dX7_blow_33 : decode cX7_blow 33 = .ok (.getfield 25, 3) := by decide +kernel
theorem dX7_blow_36 : decode cX7_blow 36 = .ok (.iload_n 3, 1) := by decide +kernel
theorem dX7_blow_37 : decode cX7_blow 37 = .ok (.iaload, 1) := by decide +kernel
theorem dX7_blow_38 : decode cX7_blow 38 = .ok (.aload_n 0, 1) := by decide +kernel
theorem dX7_blow_39 : decode cX7_blow 39 = .ok (.getfield 28, 3) := by decide +kernel
theorem dX7_blow_42 : decode cX7_blow 42 = .ok (.iload_n 3, 1) := by decide +kernel
theorem dX7_blow_43 : decode cX7_blow 43 = .ok (.iaload, 1) := by decide +kernel
theorem dX7_blow_44 : decode cX7_blow 44 = .ok (.imul, 1) := by decide +kernel
theorem dX7_blow_45 : decode cX7_blow 45 = .ok (.iload_n 2, 1) := by decide +kernel
theorem dX7_blow_46 : decode cX7_blow 46 = .ok (.imul, 1) := by decide +kernel
theorem dX7_blow_47 : decode cX7_blow 47 = .ok (.bipush 100, 2) := by decide +kernel
theorem dX7_blow_49 : decode cX7_blow 49 = .ok (.aload_n 0, 1) := by decide +kernel
theorem dX7_blow_50 : decode cX7_blow 50 = .ok (.getfield 31, 3) := by decide +kernel
theorem dX7_blow_53 : decode cX7_blow 53 = .ok (.iload_n 3, 1) := by decide +kernel
theorem dX7_blow_54 : decode cX7_blow 54 = .ok (.iaload, 1) := by decide +kernel
theorem dX7_blow_55 : decode cX7_blow 55 = .ok (.isub, 1) := by decide +kernel
theorem dX7_blow_56 : decode cX7_blow 56 = .ok (.imul, 1) := by decide +kernel
theorem dX7_blow_57 : decode cX7_blow 57 = .ok (.sipush 1000, 3) := by decide +kernel
theorem dX7_blow_60 : decode cX7_blow 60 = .ok (.idiv, 1) := by decide +kernel
theorem dX7_blow_61 : decode cX7_blow 61 = .ok (.iadd, 1) := by decide +kernel
theorem dX7_blow_62 : decode cX7_blow 62 = .ok (.iastore, 1) := by decide +kernel
theorem dX7_blow_63 : decode cX7_blow 63 = .ok (.iinc 3 1, 3) := by decide +kernel
theorem dX7_blow_66 : decode cX7_blow 66 = .ok (.goto (-55), 3) := by decide +kernel
theorem dX7_blow_69 : decode cX7_blow 69 = .ok (.bipush 6, 2) := by decide +kernel
theorem dX7_blow_71 : decode cX7_blow 71 = .ok (.iload_n 1, 1) := by decide +kernel
theorem dX7_blow_72 : decode cX7_blow 72 = .ok (.imul, 1) := by decide +kernel
theorem dX7_blow_73 : decode cX7_blow 73 = .ok (.istore_n 3, 1) := by decide +kernel
theorem dX7_blow_74 : decode cX7_blow 74 = .ok (.aload_n 0, 1) := by decide +kernel
theorem dX7_blow_75 : decode cX7_blow 75 = .ok (.getfield 46, 3) := by decide +kernel
theorem dX7_blow_78 : decode cX7_blow 78 = .ok (.iload_n 3, 1) := by decide +kernel
theorem dX7_blow_79 : decode cX7_blow 79 = .ok (.aload_n 0, 1) := by decide +kernel
theorem dX7_blow_80 : decode cX7_blow 80 = .ok (.getfield 46, 3) := by decide +kernel
theorem dX7_blow_83 : decode cX7_blow 83 = .ok (.iload_n 3, 1) := by decide +kernel
theorem dX7_blow_84 : decode cX7_blow 84 = .ok (.iconst 2, 1) := by decide +kernel
theorem dX7_blow_85 : decode cX7_blow 85 = .ok (.iadd, 1) := by decide +kernel
theorem dX7_blow_86 : decode cX7_blow 86 = .ok (.aload_n 0, 1) := by decide +kernel
theorem dX7_blow_87 : decode cX7_blow 87 = .ok (.iload_n 1, 1) := by decide +kernel
theorem dX7_blow_88 : decode cX7_blow 88 = .ok (.iconst 0, 1) := by decide +kernel
theorem dX7_blow_89 : decode cX7_blow 89 = .ok (.invokevirtual 102, 3) := by decide +kernel
theorem dX7_blow_92 : decode cX7_blow 92 = .ok (.aload_n 0, 1) := by decide +kernel
theorem dX7_blow_93 : decode cX7_blow 93 = .ok (.getfield 43, 3) := by decide +kernel
theorem dX7_blow_96 : decode cX7_blow 96 = .ok (.iload_n 1, 1) := by decide +kernel
theorem dX7_blow_97 : decode cX7_blow 97 = .ok (.iaload, 1) := by decide +kernel
theorem dX7_blow_98 : decode cX7_blow 98 = .ok (.aload_n 0, 1) := by decide +kernel
theorem dX7_blow_99 : decode cX7_blow 99 = .ok (.getfield 40, 3) := by decide +kernel
theorem dX7_blow_102 : decode cX7_blow 102 = .ok (.iload_n 1, 1) := by decide +kernel
theorem dX7_blow_103 : decode cX7_blow 103 = .ok (.iaload, 1) := by decide +kernel
theorem dX7_blow_104 : decode cX7_blow 104 = .ok (.idiv, 1) := by decide +kernel
theorem dX7_blow_105 : decode cX7_blow 105 = .ok (.invokestatic 81, 3) := by decide +kernel
theorem dX7_blow_108 : decode cX7_blow 108 = .ok (.invokestatic 109, 3) := by decide +kernel
theorem dX7_blow_111 : decode cX7_blow 111 = .ok (.aload_n 0, 1) := by decide +kernel
theorem dX7_blow_112 : decode cX7_blow 112 = .ok (.getfield 46, 3) := by decide +kernel
theorem dX7_blow_115 : decode cX7_blow 115 = .ok (.iload_n 3, 1) := by decide +kernel
theorem dX7_blow_116 : decode cX7_blow 116 = .ok (.iconst 2, 1) := by decide +kernel
theorem dX7_blow_117 : decode cX7_blow 117 = .ok (.iadd, 1) := by decide +kernel
theorem dX7_blow_118 : decode cX7_blow 118 = .ok (.aload_n 0, 1) := by decide +kernel
theorem dX7_blow_119 : decode cX7_blow 119 = .ok (.getfield 46, 3) := by decide +kernel
theorem dX7_blow_122 : decode cX7_blow 122 = .ok (.iload_n 3, 1) := by decide +kernel
theorem dX7_blow_123 : decode cX7_blow 123 = .ok (.iconst 4, 1) := by decide +kernel
theorem dX7_blow_124 : decode cX7_blow 124 = .ok (.iadd, 1) := by decide +kernel
theorem dX7_blow_125 : decode cX7_blow 125 = .ok (.aload_n 0, 1) := by decide +kernel
theorem dX7_blow_126 : decode cX7_blow 126 = .ok (.iload_n 1, 1) := by decide +kernel
theorem dX7_blow_127 : decode cX7_blow 127 = .ok (.iconst 1, 1) := by decide +kernel
theorem dX7_blow_128 : decode cX7_blow 128 = .ok (.invokevirtual 102, 3) := by decide +kernel
theorem dX7_blow_131 : decode cX7_blow 131 = .ok (.aload_n 0, 1) := by decide +kernel
theorem dX7_blow_132 : decode cX7_blow 132 = .ok (.getfield 43, 3) := by decide +kernel
theorem dX7_blow_135 : decode cX7_blow 135 = .ok (.iload_n 1, 1) := by decide +kernel
theorem dX7_blow_136 : decode cX7_blow 136 = .ok (.iaload, 1) := by decide +kernel
theorem dX7_blow_137 : decode cX7_blow 137 = .ok (.iconst 2, 1) := by decide +kernel
theorem dX7_blow_138 : decode cX7_blow 138 = .ok (.aload_n 0, 1) := by decide +kernel
theorem dX7_blow_139 : decode cX7_blow 139 = .ok (.getfield 40, 3) := by decide +kernel
theorem dX7_blow_142 : decode cX7_blow 142 = .ok (.iload_n 1, 1) := by decide +kernel
theorem dX7_blow_143 : decode cX7_blow 143 = .ok (.iaload, 1) := by decide +kernel
theorem dX7_blow_144 : decode cX7_blow 144 = .ok (.imul, 1) := by decide +kernel
theorem dX7_blow_145 : decode cX7_blow 145 = .ok (.idiv, 1) := by decide +kernel
theorem dX7_blow_146 : decode cX7_blow 146 = .ok (.invokestatic 81, 3) := by decide +kernel
theorem dX7_blow_149 : decode cX7_blow 149 = .ok (.invokestatic 109, 3) := by decide +kernel
theorem dX7_blow_152 : decode cX7_blow 152 = .ok (.return_, 1) := by decide +kernel
theorem dX7_tinInBuddles_0 : decode cX7_tinInBuddles 0 = .ok (.aload_n 0, 1) := by decide +kernel
theorem dX7_tinInBuddles_1 : decode cX7_tinInBuddles 1 = .ok (.getfield 52, 3) := by decide +kernel
theorem dX7_tinInBuddles_4 : decode cX7_tinInBuddles 4 = .ok (.iconst 1, 1) := by decide +kernel
theorem dX7_tinInBuddles_5 : decode cX7_tinInBuddles 5 = .ok (.iaload, 1) := by decide +kernel
theorem dX7_tinInBuddles_6 : decode cX7_tinInBuddles 6 = .ok (.aload_n 0, 1) := by decide +kernel
theorem dX7_tinInBuddles_7 : decode cX7_tinInBuddles 7 = .ok (.getfield 52, 3) := by decide +kernel
theorem dX7_tinInBuddles_10 : decode cX7_tinInBuddles 10 = .ok (.iconst 3, 1) := by decide +kernel
theorem dX7_tinInBuddles_11 : decode cX7_tinInBuddles 11 = .ok (.iaload, 1) := by decide +kernel
theorem dX7_tinInBuddles_12 : decode cX7_tinInBuddles 12 = .ok (.iadd, 1) := by decide +kernel
theorem dX7_tinInBuddles_13 : decode cX7_tinInBuddles 13 = .ok (.aload_n 0, 1) := by decide +kernel
theorem dX7_tinInBuddles_14 : decode cX7_tinInBuddles 14 = .ok (.getfield 52, 3) := by decide +kernel
theorem dX7_tinInBuddles_17 : decode cX7_tinInBuddles 17 = .ok (.iconst 5, 1) := by decide +kernel
theorem dX7_tinInBuddles_18 : decode cX7_tinInBuddles 18 = .ok (.iaload, 1) := by decide +kernel
theorem dX7_tinInBuddles_19 : decode cX7_tinInBuddles 19 = .ok (.iadd, 1) := by decide +kernel
theorem dX7_tinInBuddles_20 : decode cX7_tinInBuddles 20 = .ok (.ireturn, 1) := by decide +kernel
theorem dX7_inHopper_0 : decode cX7_inHopper 0 = .ok (.iconst 0, 1) := by decide +kernel
theorem dX7_inHopper_1 : decode cX7_inHopper 1 = .ok (.istore_n 1, 1) := by decide +kernel
theorem dX7_inHopper_2 : decode cX7_inHopper 2 = .ok (.iconst 0, 1) := by decide +kernel
theorem dX7_inHopper_3 : decode cX7_inHopper 3 = .ok (.istore_n 2, 1) := by decide +kernel
theorem dX7_inHopper_4 : decode cX7_inHopper 4 = .ok (.iload_n 2, 1) := by decide +kernel
theorem dX7_inHopper_5 : decode cX7_inHopper 5 = .ok (.aload_n 0, 1) := by decide +kernel
theorem dX7_inHopper_6 : decode cX7_inHopper 6 = .ok (.getfield 67, 3) := by decide +kernel
theorem dX7_inHopper_9 : decode cX7_inHopper 9 = .ok (.if_icmp .ge 31, 3) := by decide +kernel
theorem dX7_inHopper_12 : decode cX7_inHopper 12 = .ok (.iload_n 1, 1) := by decide +kernel
theorem dX7_inHopper_13 : decode cX7_inHopper 13 = .ok (.aload_n 0, 1) := by decide +kernel
theorem dX7_inHopper_14 : decode cX7_inHopper 14 = .ok (.getfield 49, 3) := by decide +kernel
theorem dX7_inHopper_17 : decode cX7_inHopper 17 = .ok (.iconst 3, 1) := by decide +kernel
theorem dX7_inHopper_18 : decode cX7_inHopper 18 = .ok (.iload_n 2, 1) := by decide +kernel
theorem dX7_inHopper_19 : decode cX7_inHopper 19 = .ok (.imul, 1) := by decide +kernel
theorem dX7_inHopper_20 : decode cX7_inHopper 20 = .ok (.iaload, 1) := by decide +kernel
theorem dX7_inHopper_21 : decode cX7_inHopper 21 = .ok (.aload_n 0, 1) := by decide +kernel
theorem dX7_inHopper_22 : decode cX7_inHopper 22 = .ok (.getfield 49, 3) := by decide +kernel
theorem dX7_inHopper_25 : decode cX7_inHopper 25 = .ok (.iconst 3, 1) := by decide +kernel
theorem dX7_inHopper_26 : decode cX7_inHopper 26 = .ok (.iload_n 2, 1) := by decide +kernel
theorem dX7_inHopper_27 : decode cX7_inHopper 27 = .ok (.imul, 1) := by decide +kernel
theorem dX7_inHopper_28 : decode cX7_inHopper 28 = .ok (.iconst 1, 1) := by decide +kernel
theorem dX7_inHopper_29 : decode cX7_inHopper 29 = .ok (.iadd, 1) := by decide +kernel
theorem dX7_inHopper_30 : decode cX7_inHopper 30 = .ok (.iaload, 1) := by decide +kernel
theorem dX7_inHopper_31 : decode cX7_inHopper 31 = .ok (.iadd, 1) := by decide +kernel
theorem dX7_inHopper_32 : decode cX7_inHopper 32 = .ok (.iadd, 1) := by decide +kernel
theorem dX7_inHopper_33 : decode cX7_inHopper 33 = .ok (.istore_n 1, 1) := by decide +kernel
theorem dX7_inHopper_34 : decode cX7_inHopper 34 = .ok (.iinc 2 1, 3) := by decide +kernel
theorem dX7_inHopper_37 : decode cX7_inHopper 37 = .ok (.goto (-33), 3) := by decide +kernel
theorem dX7_inHopper_40 : decode cX7_inHopper 40 = .ok (.iload_n 1, 1) := by decide +kernel
theorem dX7_inHopper_41 : decode cX7_inHopper 41 = .ok (.ireturn, 1) := by decide +kernel
theorem dX8_init_0 : decode cX8_init 0 = .ok (.aload_n 0, 1) := by decide +kernel
theorem dX8_init_1 : decode cX8_init 1 = .ok (.invokespecial 1, 3) := by decide +kernel
theorem dX8_init_4 : decode cX8_init 4 = .ok (.aload_n 0, 1) := by decide +kernel
theorem dX8_init_5 : decode cX8_init 5 = .ok (.new 7, 3) := by decide +kernel
theorem dX8_init_8 : decode cX8_init 8 = .ok (.dup, 1) := by decide +kernel
theorem dX8_init_9 : decode cX8_init 9 = .ok (.invokespecial 9, 3) := by decide +kernel
theorem dX8_init_12 : decode cX8_init 12 = .ok (.putfield 10, 3) := by decide +kernel
theorem dX8_init_15 : decode cX8_init 15 = .ok (.aload_n 0, 1) := by decide +kernel
theorem dX8_init_16 : decode cX8_init 16 = .ok (.new 7, 3) := by decide +kernel
theorem dX8_init_19 : decode cX8_init 19 = .ok (.dup, 1) := by decide +kernel
theorem dX8_init_20 : decode cX8_init 20 = .ok (.invokespecial 9, 3) := by decide +kernel
theorem dX8_init_23 : decode cX8_init 23 = .ok (.putfield 16, 3) := by decide +kernel
theorem dX8_init_26 : decode cX8_init 26 = .ok (.aload_n 0, 1) := by decide +kernel
theorem dX8_init_27 : decode cX8_init 27 = .ok (.iconst 2, 1) := by decide +kernel
theorem dX8_init_28 : decode cX8_init 28 = .ok (.newarray .int, 2) := by decide +kernel
theorem dX8_init_30 : decode cX8_init 30 = .ok (.putfield 19, 3) := by decide +kernel
theorem dX8_init_33 : decode cX8_init 33 = .ok (.return_, 1) := by decide +kernel
theorem dX8_thrown_0 : decode cX8_thrown 0 = .ok (.aload_n 0, 1) := by decide +kernel
theorem dX8_thrown_1 : decode cX8_thrown 1 = .ok (.getfield 23, 3) := by decide +kernel
theorem dX8_thrown_4 : decode cX8_thrown 4 = .ok (.ireturn, 1) := by decide +kernel
theorem dX8_no_0 : decode cX8_no 0 = .ok (.aload_n 0, 1) := by decide +kernel
theorem dX8_no_1 : decode cX8_no 1 = .ok (.iload_n 1, 1) := by decide +kernel
theorem dX8_no_2 : decode cX8_no 2 = .ok (.putfield 23, 3) := by decide +kernel
theorem dX8_no_5 : decode cX8_no 5 = .ok (.iconst 0, 1) := by decide +kernel
theorem dX8_no_6 : decode cX8_no 6 = .ok (.ireturn, 1) := by decide +kernel
theorem dX8_isIn_0 : decode cX8_isIn 0 = .ok (.iload_n 0, 1) := by decide +kernel
theorem dX8_isIn_1 : decode cX8_isIn 1 = .ok (.iload_n 1, 1) := by decide +kernel
theorem dX8_isIn_2 : decode cX8_isIn 2 = .ok (.if_icmp .lt 12, 3) := by decide +kernel
theorem dX8_isIn_5 : decode cX8_isIn 5 = .ok (.iload_n 0, 1) := by decide +kernel
theorem dX8_isIn_6 : decode cX8_isIn 6 = .ok (.iload_n 2, 1) := by decide +kernel
theorem dX8_isIn_7 : decode cX8_isIn 7 = .ok (.if_icmp .gt 7, 3) := by decide +kernel
theorem dX8_isIn_10 : decode cX8_isIn 10 = .ok (.iconst 1, 1) := by decide +kernel
theorem dX8_isIn_11 : decode cX8_isIn 11 = .ok (.goto 4, 3) := by decide +kernel
theorem dX8_isIn_14 : decode cX8_isIn 14 = .ok (.iconst 0, 1) := by decide +kernel
theorem dX8_isIn_15 : decode cX8_isIn 15 = .ok (.ireturn, 1) := by decide +kernel
theorem dX8_setInflow_0 : decode cX8_setInflow 0 = .ok (.aload_n 0, 1) := by decide +kernel
theorem dX8_setInflow_1 : decode cX8_setInflow 1 = .ok (.iconst 0, 1) := by decide +kernel
theorem dX8_setInflow_2 : decode cX8_setInflow 2 = .ok (.putfield 23, 3) := by decide +kernel
theorem dX8_setInflow_5 : decode cX8_setInflow 5 = .ok (.iload_n 1, 1) := by decide +kernel
theorem dX8_setInflow_6 : decode cX8_setInflow 6 = .ok (.iconst 0, 1) := by decide +kernel
theorem dX8_setInflow_7 : decode cX8_setInflow 7 = .ok (.bipush 23, 2) := by decide +kernel
theorem dX8_setInflow_9 : decode cX8_setInflow 9 = .ok (.invokestatic 27, 3) := by decide +kernel
theorem dX8_setInflow_12 : decode cX8_setInflow 12 = .ok (.ifCond .ne 9, 3) := by decide +kernel
theorem dX8_setInflow_15 : decode cX8_setInflow 15 = .ok (.aload_n 0, 1) := by decide +kernel
theorem dX8_setInflow_16 : decode cX8_setInflow 16 = .ok (.iconst 1, 1) := by decide +kernel
theorem dX8_setInflow_17 : decode cX8_setInflow 17 = .ok (.invokevirtual 31, 3) := by decide +kernel
theorem dX8_setInflow_20 : decode cX8_setInflow 20 = .ok (.ireturn, 1) := by decide +kernel
theorem dX8_setInflow_21 : decode cX8_setInflow 21 = .ok (.iload_n 2, 1) := by decide +kernel
theorem dX8_setInflow_22 : decode cX8_setInflow 22 = .ok (.iconst 0, 1) := by decide +kernel
theorem dX8_setInflow_23 : decode cX8_setInflow 23 = .ok (.sipush 900, 3) := by decide +kernel
theorem dX8_setInflow_26 : decode cX8_setInflow 26 = .ok (.invokestatic 27, 3) := by decide +kernel
theorem dX8_setInflow_29 : decode cX8_setInflow 29 = .ok (.ifCond .ne 9, 3) := by decide +kernel
theorem dX8_setInflow_32 : decode cX8_setInflow 32 = .ok (.aload_n 0, 1) := by decide +kernel
theorem dX8_setInflow_33 : decode cX8_setInflow 33 = .ok (.iconst 2, 1) := by decide +kernel
theorem dX8_setInflow_34 : decode cX8_setInflow 34 = .ok (.invokevirtual 31, 3) := by decide +kernel
theorem dX8_setInflow_37 : decode cX8_setInflow 37 = .ok (.ireturn, 1) := by decide +kernel
theorem dX8_setInflow_38 : decode cX8_setInflow 38 = .ok (.aload_n 0, 1) := by decide +kernel
theorem dX8_setInflow_39 : decode cX8_setInflow 39 = .ok (.getfield 10, 3) := by decide +kernel
theorem dX8_setInflow_42 : decode cX8_setInflow 42 = .ok (.getfield 35, 3) := by decide +kernel
theorem dX8_setInflow_45 : decode cX8_setInflow 45 = .ok (.iload_n 1, 1) := by decide +kernel
theorem dX8_setInflow_46 : decode cX8_setInflow 46 = .ok (.iaload, 1) := by decide +kernel
theorem dX8_setInflow_47 : decode cX8_setInflow 47 = .ok (.istore_n 3, 1) := by decide +kernel
theorem dX8_setInflow_48 : decode cX8_setInflow 48 = .ok (.aload_n 0, 1) := by decide +kernel
theorem dX8_setInflow_49 : decode cX8_setInflow 49 = .ok (.getfield 10, 3) := by decide +kernel
theorem dX8_setInflow_52 : decode cX8_setInflow 52 = .ok (.getfield 35, 3) := by decide +kernel
theorem dX8_setInflow_55 : decode cX8_setInflow 55 = .ok (.iload_n 1, 1) := by decide +kernel
theorem dX8_setInflow_56 : decode cX8_setInflow 56 = .ok (.iload_n 2, 1) := by decide +kernel
theorem dX8_setInflow_57 : decode cX8_setInflow 57 = .ok (.iastore, 1) := by decide +kernel
theorem dX8_setInflow_58 : decode cX8_setInflow 58 = .ok (.iload_n 3, 1) := by decide +kernel
theorem dX8_setInflow_59 : decode cX8_setInflow 59 = .ok (.ireturn, 1) := by decide +kernel
theorem dX8_setSluice_0 : decode cX8_setSluice 0 = .ok (.aload_n 0, 1) := by decide +kernel
theorem dX8_setSluice_1 : decode cX8_setSluice 1 = .ok (.iconst 0, 1) := by decide +kernel
theorem dX8_setSluice_2 : decode cX8_setSluice 2 = .ok (.putfield 23, 3) := by decide +kernel
theorem dX8_setSluice_5 : decode cX8_setSluice 5 = .ok (.iload_n 1, 1) := by decide +kernel
theorem dX8_setSluice_6 : decode cX8_setSluice 6 = .ok (.iconst 0, 1) := by decide +kernel
theorem dX8_setSluice_7 : decode cX8_setSluice 7 = .ok (.bipush 20, 2) := by decide +kernel
theorem dX8_setSluice_9 : decode cX8_setSluice 9 = .ok (.invokestatic 27, 3) := by decide +kernel
theorem dX8_setSluice_12 : decode cX8_setSluice 12 = .ok (.ifCond .ne 9, 3) := by decide +kernel
theorem dX8_setSluice_15 : decode cX8_setSluice 15 = .ok (.aload_n 0, 1) := by decide +kernel
theorem dX8_setSluice_16 : decode cX8_setSluice 16 = .ok (.iconst 1, 1) := by decide +kernel
theorem dX8_setSluice_17 : decode cX8_setSluice 17 = .ok (.invokevirtual 31, 3) := by decide +kernel
theorem dX8_setSluice_20 : decode cX8_setSluice 20 = .ok (.ireturn, 1) := by decide +kernel
theorem dX8_setSluice_21 : decode cX8_setSluice 21 = .ok (.aload_n 0, 1) := by decide +kernel
theorem dX8_setSluice_22 : decode cX8_setSluice 22 = .ok (.getfield 10, 3) := by decide +kernel
theorem dX8_setSluice_25 : decode cX8_setSluice 25 = .ok (.getfield 38, 3) := by decide +kernel
theorem dX8_setSluice_28 : decode cX8_setSluice 28 = .ok (.istore_n 2, 1) := by decide +kernel
theorem dX8_setSluice_29 : decode cX8_setSluice 29 = .ok (.aload_n 0, 1) := by decide +kernel
theorem dX8_setSluice_30 : decode cX8_setSluice 30 = .ok (.getfield 10, 3) := by decide +kernel
theorem dX8_setSluice_33 : decode cX8_setSluice 33 = .ok (.iload_n 1, 1) := by decide +kernel
theorem dX8_setSluice_34 : decode cX8_setSluice 34 = .ok (.putfield 38, 3) := by decide +kernel
theorem dX8_setSluice_37 : decode cX8_setSluice 37 = .ok (.iload_n 2, 1) := by decide +kernel
theorem dX8_setSluice_38 : decode cX8_setSluice 38 = .ok (.ireturn, 1) := by decide +kernel
theorem dX8_isBox_0 : decode cX8_isBox 0 = .ok (.iload_n 1, 1) := by decide +kernel
theorem dX8_isBox_1 : decode cX8_isBox 1 = .ok (.iconst 0, 1) := by decide +kernel
theorem dX8_isBox_2 : decode cX8_isBox 2 = .ok (.aload_n 0, 1) := by decide +kernel
theorem dX8_isBox_3 : decode cX8_isBox 3 = .ok (.getfield 10, 3) := by decide +kernel
theorem dX8_isBox_6 : decode cX8_isBox 6 = .ok (.getfield 41, 3) := by decide +kernel
theorem dX8_isBox_9 : decode cX8_isBox 9 = .ok (.iconst 1, 1) := by decide +kernel
theorem dX8_isBox_10 : decode cX8_isBox 10 = .ok (.isub, 1) := by decide +kernel
theorem dX8_isBox_11 : decode cX8_isBox 11 = .ok (.invokestatic 27, 3) := by decide +kernel
theorem dX8_isBox_14 : decode cX8_isBox 14 = .ok (.ireturn, 1) := by decide +kernel
theorem dX8_addBox_0 : decode cX8_addBox 0 = .ok (.aload_n 0, 1) := by decide +kernel
theorem dX8_addBox_1 : decode cX8_addBox 1 = .ok (.iconst 0, 1) := by decide +kernel
theorem dX8_addBox_2 : decode cX8_addBox 2 = .ok (.putfield 23, 3) := by decide +kernel
theorem dX8_addBox_5 : decode cX8_addBox 5 = .ok (.aload_n 0, 1) := by decide +kernel
theorem dX8_addBox_6 : decode cX8_addBox 6 = .ok (.getfield 10, 3) := by decide +kernel
theorem dX8_addBox_9 : decode cX8_addBox 9 = .ok (.getfield 41, 3) := by decide +kernel
theorem dX8_addBox_12 : decode cX8_addBox 12 = .ok (.iconst 4, 1) := by decide +kernel
theorem dX8_addBox_13 : decode cX8_addBox 13 = .ok (.if_icmp .ne 9, 3) := by decide +kernel
theorem dX8_addBox_16 : decode cX8_addBox 16 = .ok (.aload_n 0, 1) := by decide +kernel
theorem dX8_addBox_17 : decode cX8_addBox 17 = .ok (.iconst 1, 1) := by decide +kernel
theorem dX8_addBox_18 : decode cX8_addBox 18 = .ok (.invokevirtual 31, 3) := by decide +kernel
theorem dX8_addBox_21 : decode cX8_addBox 21 = .ok (.ireturn, 1) := by decide +kernel
theorem dX8_addBox_22 : decode cX8_addBox 22 = .ok (.aload_n 0, 1) := by decide +kernel
theorem dX8_addBox_23 : decode cX8_addBox 23 = .ok (.getfield 10, 3) := by decide +kernel
theorem dX8_addBox_26 : decode cX8_addBox 26 = .ok (.getfield 44, 3) := by decide +kernel
theorem dX8_addBox_29 : decode cX8_addBox 29 = .ok (.aload_n 0, 1) := by decide +kernel
theorem dX8_addBox_30 : decode cX8_addBox 30 = .ok (.getfield 10, 3) := by decide +kernel
theorem dX8_addBox_33 : decode cX8_addBox 33 = .ok (.getfield 41, 3) := by decide +kernel
theorem dX8_addBox_36 : decode cX8_addBox 36 = .ok (.bipush 50, 2) := by decide +kernel
theorem dX8_addBox_38 : decode cX8_addBox 38 = .ok (.iastore, 1) := by decide +kernel
theorem dX8_addBox_39 : decode cX8_addBox 39 = .ok (.aload_n 0, 1) := by decide +kernel
theorem dX8_addBox_40 : decode cX8_addBox 40 = .ok (.getfield 10, 3) := by decide +kernel
theorem dX8_addBox_43 : decode cX8_addBox 43 = .ok (.getfield 47, 3) := by decide +kernel
theorem dX8_addBox_46 : decode cX8_addBox 46 = .ok (.aload_n 0, 1) := by decide +kernel
theorem dX8_addBox_47 : decode cX8_addBox 47 = .ok (.getfield 10, 3) := by decide +kernel
theorem dX8_addBox_50 : decode cX8_addBox 50 = .ok (.getfield 41, 3) := by decide +kernel
theorem dX8_addBox_53 : decode cX8_addBox 53 = .ok (.iconst 5, 1) := by decide +kernel
theorem dX8_addBox_54 : decode cX8_addBox 54 = .ok (.iastore, 1) := by decide +kernel
theorem dX8_addBox_55 : decode cX8_addBox 55 = .ok (.aload_n 0, 1) := by decide +kernel
theorem dX8_addBox_56 : decode cX8_addBox 56 = .ok (.getfield 10, 3) := by decide +kernel
theorem dX8_addBox_59 : decode cX8_addBox 59 = .ok (.dup, 1) := by decide +kernel
theorem dX8_addBox_60 : decode cX8_addBox 60 = .ok (.getfield 41, 3) := by decide +kernel
theorem dX8_addBox_63 : decode cX8_addBox 63 = .ok (.iconst 1, 1) := by decide +kernel
theorem dX8_addBox_64 : decode cX8_addBox 64 = .ok (.iadd, 1) := by decide +kernel
theorem dX8_addBox_65 : decode cX8_addBox 65 = .ok (.putfield 41, 3) := by decide +kernel
theorem dX8_addBox_68 : decode cX8_addBox 68 = .ok (.aload_n 0, 1) := by decide +kernel
theorem dX8_addBox_69 : decode cX8_addBox 69 = .ok (.getfield 10, 3) := by decide +kernel
theorem dX8_addBox_72 : decode cX8_addBox 72 = .ok (.getfield 41, 3) := by decide +kernel
theorem dX8_addBox_75 : decode cX8_addBox 75 = .ok (.iconst 1, 1) := by decide +kernel
theorem dX8_addBox_76 : decode cX8_addBox 76 = .ok (.isub, 1) := by decide +kernel
theorem dX8_addBox_77 : decode cX8_addBox 77 = .ok (.ireturn, 1) := by decide +kernel
theorem dX8_hang_0 : decode cX8_hang 0 = .ok (.aload_n 0, 1) := by decide +kernel
theorem dX8_hang_1 : decode cX8_hang 1 = .ok (.iconst 0, 1) := by decide +kernel
theorem dX8_hang_2 : decode cX8_hang 2 = .ok (.putfield 23, 3) := by decide +kernel
theorem dX8_hang_5 : decode cX8_hang 5 = .ok (.aload_n 0, 1) := by decide +kernel
theorem dX8_hang_6 : decode cX8_hang 6 = .ok (.iload_n 1, 1) := by decide +kernel
theorem dX8_hang_7 : decode cX8_hang 7 = .ok (.invokevirtual 50, 3) := by decide +kernel
theorem dX8_hang_10 : decode cX8_hang 10 = .ok (.ifCond .ne 9, 3) := by decide +kernel
theorem dX8_hang_13 : decode cX8_hang 13 = .ok (.aload_n 0, 1) := by decide +kernel
theorem dX8_hang_14 : decode cX8_hang 14 = .ok (.iconst 1, 1) := by decide +kernel
theorem dX8_hang_15 : decode cX8_hang 15 = .ok (.invokevirtual 31, 3) := by decide +kernel
theorem dX8_hang_18 : decode cX8_hang 18 = .ok (.ireturn, 1) := by decide +kernel
theorem dX8_hang_19 : decode cX8_hang 19 = .ok (.iload_n 2, 1) := by decide +kernel
theorem dX8_hang_20 : decode cX8_hang 20 = .ok (.bipush 10, 2) := by decide +kernel
theorem dX8_hang_22 : decode cX8_hang 22 = .ok (.bipush 60, 2) := by decide +kernel
theorem dX8_hang_24 : decode cX8_hang 24 = .ok (.invokestatic 27, 3) := by decide +kernel
theorem dX8_hang_27 : decode cX8_hang 27 = .ok (.ifCond .eq 12, 3) := by decide +kernel
theorem dX8_hang_30 : decode cX8_hang 30 = .ok (.iload_n 3, 1) := by decide +kernel
theorem dX8_hang_31 : decode cX8_hang 31 = .ok (.iconst 1, 1) := by decide +kernel
theorem dX8_hang_32 : decode cX8_hang 32 = .ok (.iconst 4, 1) := by decide +kernel
theorem dX8_hang_33 : decode cX8_hang 33 = .ok (.invokestatic 27, 3) := by decide +kernel
theorem dX8_hang_36 : decode cX8_hang 36 = .ok (.ifCond .ne 9, 3) := by decide +kernel
theorem dX8_hang_39 : decode cX8_hang 39 = .ok (.aload_n 0, 1) := by decide +kernel
theorem dX8_hang_40 : decode cX8_hang 40 = .ok (.iconst 2, 1) := by decide +kernel
theorem dX8_hang_41 : decode cX8_hang 41 = .ok (.invokevirtual 31, 3) := by decide +kernel
theorem dX8_hang_44 : decode cX8_hang 44 = .ok (.ireturn, 1) := by decide +kernel
theorem dX8_hang_45 : decode cX8_hang 45 = .ok (.aload_n 0, 1) := by decide +kernel
theorem dX8_hang_46 : decode cX8_hang 46 = .ok (.getfield 10, 3) := by decide +kernel
theorem dX8_hang_49 : decode cX8_hang 49 = .ok (.getfield 54, 3) := by decide +kernel
theorem dX8_hang_52 : decode cX8_hang 52 = .ok (.iload_n 1, 1) := by decide +kernel
theorem dX8_hang_53 : decode cX8_hang 53 = .ok (.iaload, 1) := by decide +kernel
theorem dX8_hang_54 : decode cX8_hang 54 = .ok (.iconst 4, 1) := by decide +kernel
theorem dX8_hang_55 : decode cX8_hang 55 = .ok (.if_icmp .ne 9, 3) := by decide +kernel
theorem dX8_hang_58 : decode cX8_hang 58 = .ok (.aload_n 0, 1) := by decide +kernel
theorem dX8_hang_59 : decode cX8_hang 59 = .ok (.iconst 3, 1) := by decide +kernel
theorem dX8_hang_60 : decode cX8_hang 60 = .ok (.invokevirtual 31, 3) := by decide +kernel
theorem dX8_hang_63 : decode cX8_hang 63 = .ok (.ireturn, 1) := by decide +kernel
theorem dX8_hang_64 : decode cX8_hang 64 = .ok (.iconst 4, 1) := by decide +kernel
theorem dX8_hang_65 : decode cX8_hang 65 = .ok (.iload_n 1, 1) := by decide +kernel
theorem dX8_hang_66 : decode cX8_hang 66 = .ok (.imul, 1) := by decide +kernel
theorem dX8_hang_67 : decode cX8_hang 67 = .ok (.aload_n 0, 1) := by decide +kernel
theorem dX8_hang_68 : decode cX8_hang 68 = .ok (.getfield 10, 3) := by decide +kernel
theorem dX8_hang_71 : decode cX8_hang 71 = .ok (.getfield 54, 3) := by decide +kernel
theorem dX8_hang_74 : decode cX8_hang 74 = .ok (.iload_n 1, 1) := by decide +kernel
theorem dX8_hang_75 : decode cX8_hang 75 = .ok (.iaload, 1) := by decide +kernel
theorem dX8_hang_76 : decode cX8_hang 76 = .ok (.iadd, 1) := by decide +kernel
theorem dX8_hang_77 : decode cX8_hang 77 = .ok (.istore 4, 2) := by decide +kernel
theorem dX8_hang_79 : decode cX8_hang 79 = .ok (.aload_n 0, 1) := by decide +kernel
theorem dX8_hang_80 : decode cX8_hang 80 = .ok (.getfield 10, 3) := by decide +kernel
theorem dX8_hang_83 : decode cX8_hang 83 = .ok (.getfield 57, 3) := by decide +kernel
theorem dX8_hang_86 : decode cX8_hang 86 = .ok (.iload 4, 2) := by decide +kernel
theorem dX8_hang_88 : decode cX8_hang 88 = .ok (.iload_n 2, 1) := by decide +kernel
theorem dX8_hang_89 : decode cX8_hang 89 = .ok (.iastore, 1) := by decide +kernel
theorem dX8_hang_90 : decode cX8_hang 90 = .ok (.aload_n 0, 1) := by decide +kernel
theorem dX8_hang_91 : decode cX8_hang 91 = .ok (.getfield 10, 3) := by decide +kernel
theorem dX8_hang_94 : decode cX8_hang 94 = .ok (.getfield 60, 3) := by decide +kernel
theorem dX8_hang_97 : decode cX8_hang 97 = .ok (.iload 4, 2) := by decide +kernel
theorem dX8_hang_99 : decode cX8_hang 99 = .ok (.iload_n 3, 1) := by decide +kernel
theorem dX8_hang_100 : decode cX8_hang 100 = .ok (.iastore, 1) := by decide +kernel
theorem dX8_hang_101 : decode cX8_hang 101 = .ok (.aload_n 0, 1) := by decide +kernel
theorem dX8_hang_102 : decode cX8_hang 102 = .ok (.getfield 10, 3) := by decide +kernel
theorem dX8_hang_105 : decode cX8_hang 105 = .ok (.getfield 63, 3) := by decide +kernel
theorem dX8_hang_108 : decode cX8_hang 108 = .ok (.iload 4, 2) := by decide +kernel
theorem dX8_hang_110 : decode cX8_hang 110 = .ok (.iconst 0, 1) := by decide +kernel
theorem dX8_hang_111 : decode cX8_hang 111 = .ok (.iastore, 1) := by decide +kernel
theorem dX8_hang_112 : decode cX8_hang 112 = .ok (.aload_n 0, 1) := by decide +kernel
theorem dX8_hang_113 : decode cX8_hang 113 = .ok (.getfield 10, 3) := by decide +kernel
theorem dX8_hang_116 : decode cX8_hang 116 = .ok (.getfield 54, 3) := by decide +kernel
theorem dX8_hang_119 : decode cX8_hang 119 = .ok (.iload_n 1, 1) := by decide +kernel
theorem dX8_hang_120 : decode cX8_hang 120 = .ok (.dup2, 1) := by decide +kernel
theorem dX8_hang_121 : decode cX8_hang 121 = .ok (.iaload, 1) := by decide +kernel
theorem dX8_hang_122 : decode cX8_hang 122 = .ok (.iconst 1, 1) := by decide +kernel
theorem dX8_hang_123 : decode cX8_hang 123 = .ok (.iadd, 1) := by decide +kernel
theorem dX8_hang_124 : decode cX8_hang 124 = .ok (.iastore, 1) := by decide +kernel
theorem dX8_hang_125 : decode cX8_hang 125 = .ok (.aload_n 0, 1) := by decide +kernel
theorem dX8_hang_126 : decode cX8_hang 126 = .ok (.getfield 10, 3) := by decide +kernel
theorem dX8_hang_129 : decode cX8_hang 129 = .ok (.getfield 54, 3) := by decide +kernel
theorem dX8_hang_132 : decode cX8_hang 132 = .ok (.iload_n 1, 1) := by decide +kernel
theorem dX8_hang_133 : decode cX8_hang 133 = .ok (.iaload, 1) := by decide +kernel
theorem dX8_hang_134 : decode cX8_hang 134 = .ok (.ireturn, 1) := by decide +kernel
theorem dX8_shoe_0 : decode cX8_shoe 0 = .ok (.aload_n 0, 1) := by decide +kernel
theorem dX8_shoe_1 : decode cX8_shoe 1 = .ok (.iconst 0, 1) := by decide +kernel
theorem dX8_shoe_2 : decode cX8_shoe 2 = .ok (.putfield 23, 3) := by decide +kernel
theorem dX8_shoe_5 : decode cX8_shoe 5 = .ok (.aload_n 0, 1) := by decide +kernel
theorem dX8_shoe_6 : decode cX8_shoe 6 = .ok (.iload_n 1, 1) := by decide +kernel
theorem dX8_shoe_7 : decode cX8_shoe 7 = .ok (.invokevirtual 50, 3) := by decide +kernel
theorem dX8_shoe_10 : decode cX8_shoe 10 = .ok (.ifCond .eq 22, 3) := by decide +kernel
theorem dX8_shoe_13 : decode cX8_shoe 13 = .ok (.iload_n 2, 1) := by decide +kernel
theorem dX8_shoe_14 : decode cX8_shoe 14 = .ok (.iconst 0, 1) := by decide +kernel
theorem dX8_shoe_15 : decode cX8_shoe 15 = .ok (.aload_n 0, 1) := by decide +kernel
theorem dX8_shoe_16 : decode cX8_shoe 16 = .ok (.getfield 10, 3) := by decide +kernel
theorem dX8_shoe_19 : decode cX8_shoe 19 = .ok (.getfield 54, 3) := by decide +kernel
theorem dX8_shoe_22 : decode cX8_shoe 22 = .ok (.iload_n 1, 1) := by decide +kernel
theorem dX8_shoe_23 : decode cX8_shoe 23 = .ok (.iaload, 1) := by decide +kernel
theorem dX8_shoe_24 : decode cX8_shoe 24 = .ok (.iconst 1, 1) := by decide +kernel
theorem dX8_shoe_25 : decode cX8_shoe 25 = .ok (.isub, 1) := by decide +kernel
theorem dX8_shoe_26 : decode cX8_shoe 26 = .ok (.invokestatic 27, 3) := by decide +kernel
theorem dX8_shoe_29 : decode cX8_shoe 29 = .ok (.ifCond .ne 9, 3) := by decide +kernel
theorem dX8_shoe_32 : decode cX8_shoe 32 = .ok (.aload_n 0, 1) := by decide +kernel
theorem dX8_shoe_33 : decode cX8_shoe 33 = .ok (.iconst 1, 1) := by decide +kernel
theorem dX8_shoe_34 : decode cX8_shoe 34 = .ok (.invokevirtual 31, 3) := by decide +kernel
theorem dX8_shoe_37 : decode cX8_shoe 37 = .ok (.ireturn, 1) := by decide +kernel
theorem dX8_shoe_38 : decode cX8_shoe 38 = .ok (.aload_n 0, 1) := by decide +kernel
theorem dX8_shoe_39 : decode cX8_shoe 39 = .ok (.getfield 10, 3) := by decide +kernel
theorem dX8_shoe_42 : decode cX8_shoe 42 = .ok (.getfield 63, 3) := by decide +kernel
theorem dX8_shoe_45 : decode cX8_shoe 45 = .ok (.iconst 4, 1) := by decide +kernel
theorem dX8_shoe_46 : decode cX8_shoe 46 = .ok (.iload_n 1, 1) := by decide +kernel
theorem dX8_shoe_47 : decode cX8_shoe 47 = .ok (.imul, 1) := by decide +kernel
theorem dX8_shoe_48 : decode cX8_shoe 48 = .ok (.iload_n 2, 1) := by decide +kernel
theorem dX8_shoe_49 : decode cX8_shoe 49 = .ok (.iadd, 1) := by decide +kernel
theorem dX8_shoe_50 : decode cX8_shoe 50 = .ok (.iaload, 1) := by decide +kernel
theorem dX8_shoe_51 : decode cX8_shoe 51 = .ok (.istore_n 3, 1) := by decide +kernel
theorem dX8_shoe_52 : decode cX8_shoe 52 = .ok (.aload_n 0, 1) := by decide +kernel
theorem dX8_shoe_53 : decode cX8_shoe 53 = .ok (.getfield 10, 3) := by decide +kernel
theorem dX8_shoe_56 : decode cX8_shoe 56 = .ok (.getfield 63, 3) := by decide +kernel
theorem dX8_shoe_59 : decode cX8_shoe 59 = .ok (.iconst 4, 1) := by decide +kernel
theorem dX8_shoe_60 : decode cX8_shoe 60 = .ok (.iload_n 1, 1) := by decide +kernel
theorem dX8_shoe_61 : decode cX8_shoe 61 = .ok (.imul, 1) := by decide +kernel
theorem dX8_shoe_62 : decode cX8_shoe 62 = .ok (.iload_n 2, 1) := by decide +kernel
theorem dX8_shoe_63 : decode cX8_shoe 63 = .ok (.iadd, 1) := by decide +kernel
theorem dX8_shoe_64 : decode cX8_shoe 64 = .ok (.iconst 0, 1) := by decide +kernel
theorem dX8_shoe_65 : decode cX8_shoe 65 = .ok (.iastore, 1) := by decide +kernel
theorem dX8_shoe_66 : decode cX8_shoe 66 = .ok (.iload_n 3, 1) := by decide +kernel
theorem dX8_shoe_67 : decode cX8_shoe 67 = .ok (.ireturn, 1) := by decide +kernel
theorem dX8_setBox_0 : decode cX8_setBox 0 = .ok (.aload_n 0, 1) := by decide +kernel
theorem dX8_setBox_1 : decode cX8_setBox 1 = .ok (.iconst 0, 1) := by decide +kernel
theorem dX8_setBox_2 : decode cX8_setBox 2 = .ok (.putfield 23, 3) := by decide +kernel
theorem dX8_setBox_5 : decode cX8_setBox 5 = .ok (.aload_n 0, 1) := by decide +kernel
theorem dX8_setBox_6 : decode cX8_setBox 6 = .ok (.iload_n 1, 1) := by decide +kernel
theorem dX8_setBox_7 : decode cX8_setBox 7 = .ok (.invokevirtual 50, 3) := by decide +kernel
theorem dX8_setBox_10 : decode cX8_setBox 10 = .ok (.ifCond .ne 9, 3) := by decide +kernel
theorem dX8_setBox_13 : decode cX8_setBox 13 = .ok (.aload_n 0, 1) := by decide +kernel
theorem dX8_setBox_14 : decode cX8_setBox 14 = .ok (.iconst 1, 1) := by decide +kernel
theorem dX8_setBox_15 : decode cX8_setBox 15 = .ok (.invokevirtual 31, 3) := by decide +kernel
theorem dX8_setBox_18 : decode cX8_setBox 18 = .ok (.ireturn, 1) := by decide +kernel
theorem dX8_setBox_19 : decode cX8_setBox 19 = .ok (.iload_n 2, 1) := by decide +kernel
theorem dX8_setBox_20 : decode cX8_setBox 20 = .ok (.iconst 0, 1) := by decide +kernel
theorem dX8_setBox_21 : decode cX8_setBox 21 = .ok (.sipush 300, 3) := by decide +kernel
theorem dX8_setBox_24 : decode cX8_setBox 24 = .ok (.invokestatic 27, 3) := by decide +kernel
theorem dX8_setBox_27 : decode cX8_setBox 27 = .ok (.ifCond .eq 12, 3) := by decide +kernel
theorem dX8_setBox_30 : decode cX8_setBox 30 = .ok (.iload_n 3, 1) := by decide +kernel
theorem dX8_setBox_31 : decode cX8_setBox 31 = .ok (.iconst 0, 1) := by decide +kernel
theorem dX8_setBox_32 : decode cX8_setBox 32 = .ok (.iconst 2, 1) := by decide +kernel
theorem dX8_setBox_33 : decode cX8_setBox 33 = .ok (.invokestatic 27, 3) := by decide +kernel
theorem dX8_setBox_36 : decode cX8_setBox 36 = .ok (.ifCond .ne 9, 3) := by decide +kernel
theorem dX8_setBox_39 : decode cX8_setBox 39 = .ok (.aload_n 0, 1) := by decide +kernel
theorem dX8_setBox_40 : decode cX8_setBox 40 = .ok (.iconst 2, 1) := by decide +kernel
theorem dX8_setBox_41 : decode cX8_setBox 41 = .ok (.invokevirtual 31, 3) := by decide +kernel
theorem dX8_setBox_44 : decode cX8_setBox 44 = .ok (.ireturn, 1) := by decide +kernel
theorem dX8_setBox_45 : decode cX8_setBox 45 = .ok (.aload_n 0, 1) := by decide +kernel
theorem dX8_setBox_46 : decode cX8_setBox 46 = .ok (.getfield 10, 3) := by decide +kernel
theorem dX8_setBox_49 : decode cX8_setBox 49 = .ok (.getfield 44, 3) := by decide +kernel
theorem dX8_setBox_52 : decode cX8_setBox 52 = .ok (.iload_n 1, 1) := by decide +kernel
theorem dX8_setBox_53 : decode cX8_setBox 53 = .ok (.iaload, 1) := by decide +kernel
theorem dX8_setBox_54 : decode cX8_setBox 54 = .ok (.istore 4, 2) := by decide +kernel
theorem dX8_setBox_56 : decode cX8_setBox 56 = .ok (.aload_n 0, 1) := by decide +kernel
theorem dX8_setBox_57 : decode cX8_setBox 57 = .ok (.getfield 10, 3) := by decide +kernel
theorem dX8_setBox_60 : decode cX8_setBox 60 = .ok (.getfield 44, 3) := by decide +kernel
theorem dX8_setBox_63 : decode cX8_setBox 63 = .ok (.iload_n 1, 1) := by decide +kernel
theorem dX8_setBox_64 : decode cX8_setBox 64 = .ok (.iload_n 2, 1) := by decide +kernel
theorem dX8_setBox_65 : decode cX8_setBox 65 = .ok (.iastore, 1) := by decide +kernel
theorem dX8_setBox_66 : decode cX8_setBox 66 = .ok (.aload_n 0, 1) := by decide +kernel
theorem dX8_setBox_67 : decode cX8_setBox 67 = .ok (.getfield 10, 3) := by decide +kernel
theorem dX8_setBox_70 : decode cX8_setBox 70 = .ok (.getfield 66, 3) := by decide +kernel
theorem dX8_setBox_73 : decode cX8_setBox 73 = .ok (.iload_n 1, 1) := by decide +kernel
theorem dX8_setBox_74 : decode cX8_setBox 74 = .ok (.iload_n 3, 1) := by decide +kernel
theorem dX8_setBox_75 : decode cX8_setBox 75 = .ok (.iastore, 1) := by decide +kernel
theorem dX8_setBox_76 : decode cX8_setBox 76 = .ok (.iload 4, 2) := by decide +kernel
theorem dX8_setBox_78 : decode cX8_setBox 78 = .ok (.ireturn, 1) := by decide +kernel
theorem dX8_boxTold_0 : decode cX8_boxTold 0 = .ok (.iload_n 2, 1) := by decide +kernel
theorem dX8_boxTold_1 : decode cX8_boxTold 1 = .ok (.iconst 3, 1) := by decide +kernel
theorem dX8_boxTold_2 : decode cX8_boxTold 2 = .ok (.if_icmp .le 41, 3) := by decide +kernel
theorem dX8_boxTold_5 : decode cX8_boxTold 5 = .ok (.iload_n 2, 1) := by decide +kernel
theorem dX8_boxTold_6 : decode cX8_boxTold 6 = .ok (.bipush 10, 2) := by decide +kernel
theorem dX8_boxTold_8 : decode cX8_boxTold 8 = .ok (.if_icmp .ge 35, 3) := by decide +kernel
theorem dX8_boxTold_11 : decode cX8_boxTold 11 = .ok (.aload_n 0, 1) := by decide +kernel
theorem dX8_boxTold_12 : decode cX8_boxTold 12 = .ok (.getfield 10, 3) := by decide +kernel
theorem dX8_boxTold_15 : decode cX8_boxTold 15 = .ok (.getfield 69, 3) := by decide +kernel
theorem dX8_boxTold_18 : decode cX8_boxTold 18 = .ok (.iconst 2, 1) := by decide +kernel
theorem dX8_boxTold_19 : decode cX8_boxTold 19 = .ok (.iconst 3, 1) := by decide +kernel
theorem dX8_boxTold_20 : decode cX8_boxTold 20 = .ok (.iload_n 1, 1) := by decide +kernel
theorem dX8_boxTold_21 : decode cX8_boxTold 21 = .ok (.imul, 1) := by decide +kernel
theorem dX8_boxTold_22 : decode cX8_boxTold 22 = .ok (.iload_n 2, 1) := by decide +kernel
theorem dX8_boxTold_23 : decode cX8_boxTold 23 = .ok (.iconst 4, 1) := by decide +kernel
theorem dX8_boxTold_24 : decode cX8_boxTold 24 = .ok (.isub, 1) := by decide +kernel
theorem dX8_boxTold_25 : decode cX8_boxTold 25 = .ok (.iconst 3, 1) := by decide +kernel
theorem dX8_boxTold_26 : decode cX8_boxTold 26 = .ok (.irem, 1) := by decide +kernel
theorem dX8_boxTold_27 : decode cX8_boxTold 27 = .ok (.iadd, 1) := by decide +kernel
theorem dX8_boxTold_28 : decode cX8_boxTold 28 = .ok (.imul, 1) := by decide +kernel
theorem dX8_boxTold_29 : decode cX8_boxTold 29 = .ok (.iload_n 2, 1) := by decide +kernel
theorem dX8_boxTold_30 : decode cX8_boxTold 30 = .ok (.bipush 6, 2) := by decide +kernel
theorem dX8_boxTold_32 : decode cX8_boxTold 32 = .ok (.if_icmp .le 7, 3) := by decide +kernel
theorem dX8_boxTold_35 : decode cX8_boxTold 35 = .ok (.iconst 1, 1) := by decide +kernel
theorem dX8_boxTold_36 : decode cX8_boxTold 36 = .ok (.goto 4, 3) := by decide +kernel
theorem dX8_boxTold_39 : decode cX8_boxTold 39 = .ok (.iconst 0, 1) := by decide +kernel
theorem dX8_boxTold_40 : decode cX8_boxTold 40 = .ok (.iadd, 1) := by decide +kernel
theorem dX8_boxTold_41 : decode cX8_boxTold 41 = .ok (.iaload, 1) := by decide +kernel
theorem dX8_boxTold_42 : decode cX8_boxTold 42 = .ok (.ireturn, 1) := by decide +kernel
theorem dX8_boxTold_43 : decode cX8_boxTold 43 = .ok (.iload_n 2, 1) := by decide +kernel
theorem dX8_boxTold_44 : decode cX8_boxTold 44 = .ok (.bipush 10, 2) := by decide +kernel
theorem dX8_boxTold_46 : decode cX8_boxTold 46 = .ok (.if_icmp .ne 47, 3) := by decide +kernel
theorem dX8_boxTold_49 : decode cX8_boxTold 49 = .ok (.iconst 0, 1) := by decide +kernel
theorem dX8_boxTold_50 : decode cX8_boxTold 50 = .ok (.istore_n 3, 1) := by decide +kernel
theorem dX8_boxTold_51 : decode cX8_boxTold 51 = .ok (.iconst 0, 1) := by decide +kernel
theorem dX8_boxTold_52 : decode cX8_boxTold 52 = .ok (.istore 4, 2) := by decide +kernel
theorem dX8_boxTold_54 : decode cX8_boxTold 54 = .ok (.iload 4, 2) := by decide +kernel
theorem dX8_boxTold_56 : decode cX8_boxTold 56 = .ok (.aload_n 0, 1) := by decide +kernel
theorem dX8_boxTold_57 : decode cX8_boxTold 57 = .ok (.getfield 10, 3) := by decide +kernel
theorem dX8_boxTold_60 : decode cX8_boxTold 60 = .ok (.getfield 54, 3) := by decide +kernel
theorem dX8_boxTold_63 : decode cX8_boxTold 63 = .ok (.iload_n 1, 1) := by decide +kernel
theorem dX8_boxTold_64 : decode cX8_boxTold 64 = .ok (.iaload, 1) := by decide +kernel
theorem dX8_boxTold_65 : decode cX8_boxTold 65 = .ok (.if_icmp .ge 26, 3) := by decide +kernel
theorem dX8_boxTold_68 : decode cX8_boxTold 68 = .ok (.iload_n 3, 1) := by decide +kernel
theorem dX8_boxTold_69 : decode cX8_boxTold 69 = .ok (.aload_n 0, 1) := by decide +kernel
theorem dX8_boxTold_70 : decode cX8_boxTold 70 = .ok (.getfield 10, 3) := by decide +kernel
theorem dX8_boxTold_73 : decode cX8_boxTold 73 = .ok (.getfield 63, 3) := by decide +kernel
theorem dX8_boxTold_76 : decode cX8_boxTold 76 = .ok (.iconst 4, 1) := by decide +kernel
theorem dX8_boxTold_77 : decode cX8_boxTold 77 = .ok (.iload_n 1, 1) := by decide +kernel
theorem dX8_boxTold_78 : decode cX8_boxTold 78 = .ok (.imul, 1) := by decide +kernel
theorem dX8_boxTold_79 : decode cX8_boxTold 79 = .ok (.iload 4, 2) := by decide +kernel
theorem dX8_boxTold_81 : decode cX8_boxTold 81 = .ok (.iadd, 1) := by decide +kernel
theorem dX8_boxTold_82 : decode cX8_boxTold 82 = .ok (.iaload, 1) := by decide +kernel
theorem dX8_boxTold_83 : decode cX8_boxTold 83 = .ok (.iadd, 1) := by decide +kernel
theorem dX8_boxTold_84 : decode cX8_boxTold 84 = .ok (.istore_n 3, 1) := by decide +kernel
theorem dX8_boxTold_85 : decode cX8_boxTold 85 = .ok (.iinc 4 1, 3) := by decide +kernel
theorem dX8_boxTold_88 : decode cX8_boxTold 88 = .ok (.goto (-34), 3) := by decide +kernel
theorem dX8_boxTold_91 : decode cX8_boxTold 91 = .ok (.iload_n 3, 1) := by decide +kernel
theorem dX8_boxTold_92 : decode cX8_boxTold 92 = .ok (.ireturn, 1) := by decide +kernel
theorem dX8_boxTold_93 : decode cX8_boxTold 93 = .ok (.iload_n 2, 1) := by decide +kernel
theorem dX8_boxTold_94 : decode cX8_boxTold 94 = .ok (.ifCond .ne 15, 3) := by decide +kernel
theorem dX8_boxTold_97 : decode cX8_boxTold 97 = .ok (.aload_n 0, 1) := by decide +kernel
theorem dX8_boxTold_98 : decode cX8_boxTold 98 = .ok (.getfield 10, 3) := by decide +kernel
theorem dX8_boxTold_101 : decode cX8_boxTold 101 = .ok (.getfield 54, 3) := by decide +kernel
theorem dX8_boxTold_104 : decode cX8_boxTold 104 = .ok (.iload_n 1, 1) := by decide +kernel
theorem dX8_boxTold_105 : decode cX8_boxTold 105 = .ok (.iaload, 1) := by decide +kernel
theorem dX8_boxTold_106 : decode cX8_boxTold 106 = .ok (.goto 63, 3) := by decide +kernel
theorem dX8_boxTold_109 : decode cX8_boxTold 109 = .ok (.iload_n 2, 1) := by decide +kernel
theorem dX8_boxTold_110 : decode cX8_boxTold 110 = .ok (.iconst 1, 1) := by decide +kernel
theorem dX8_boxTold_111 : decode cX8_boxTold 111 = .ok (.if_icmp .ne 15, 3) := by decide +kernel
theorem dX8_boxTold_114 : decode cX8_boxTold 114 = .ok (.aload_n 0, 1) := by decide +kernel
theorem dX8_boxTold_115 : decode cX8_boxTold 115 = .ok (.getfield 10, 3) := by decide +kernel
theorem dX8_boxTold_118 : decode cX8_boxTold 118 = .ok (.getfield 44, 3) := by decide +kernel
theorem dX8_boxTold_121 : decode cX8_boxTold 121 = .ok (.iload_n 1, 1) := by decide +kernel
theorem dX8_boxTold_122 : decode cX8_boxTold 122 = .ok (.iaload, 1) := by decide +kernel
theorem dX8_boxTold_123 : decode cX8_boxTold 123 = .ok (.goto 46, 3) := by decide +kernel
theorem dX8_boxTold_126 : decode cX8_boxTold 126 = .ok (.iload_n 2, 1) := by decide +kernel
theorem dX8_boxTold_127 : decode cX8_boxTold 127 = .ok (.iconst 2, 1) := by decide +kernel
theorem dX8_boxTold_128 : decode cX8_boxTold 128 = .ok (.if_icmp .ne 15, 3) := by decide +kernel
theorem dX8_boxTold_131 : decode cX8_boxTold 131 = .ok (.aload_n 0, 1) := by decide +kernel
theorem dX8_boxTold_132 : decode cX8_boxTold 132 = .ok (.getfield 10, 3) := by decide +kernel
theorem dX8_boxTold_135 : decode cX8_boxTold 135 = .ok (.getfield 66, 3) := by decide +kernel
theorem dX8_boxTold_138 : decode cX8_boxTold 138 = .ok (.iload_n 1, 1) := by decide +kernel
theorem dX8_boxTold_139 : decode cX8_boxTold 139 = .ok (.iaload, 1) := by decide +kernel
theorem dX8_boxTold_140 : decode cX8_boxTold 140 = .ok (.goto 29, 3) := by decide +kernel
theorem dX8_boxTold_143 : decode cX8_boxTold 143 = .ok (.iload_n 2, 1) := by decide +kernel
theorem dX8_boxTold_144 : decode cX8_boxTold 144 = .ok (.iconst 3, 1) := by decide +kernel
theorem dX8_boxTold_145 : decode cX8_boxTold 145 = .ok (.if_icmp .ne 15, 3) := by decide +kernel
theorem dX8_boxTold_148 : decode cX8_boxTold 148 = .ok (.aload_n 0, 1) := by decide +kernel
theorem dX8_boxTold_149 : decode cX8_boxTold 149 = .ok (.getfield 10, 3) := by decide +kernel
theorem dX8_boxTold_152 : decode cX8_boxTold 152 = .ok (.getfield 47, 3) := by decide +kernel
theorem dX8_boxTold_155 : decode cX8_boxTold 155 = .ok (.iload_n 1, 1) := by decide +kernel
theorem dX8_boxTold_156 : decode cX8_boxTold 156 = .ok (.iaload, 1) := by decide +kernel
theorem dX8_boxTold_157 : decode cX8_boxTold 157 = .ok (.goto 12, 3) := by decide +kernel
theorem dX8_boxTold_160 : decode cX8_boxTold 160 = .ok (.aload_n 0, 1) := by decide +kernel
theorem dX8_boxTold_161 : decode cX8_boxTold 161 = .ok (.getfield 10, 3) := by decide +kernel
theorem dX8_boxTold_164 : decode cX8_boxTold 164 = .ok (.getfield 72, 3) := by decide +kernel
theorem dX8_boxTold_167 : decode cX8_boxTold 167 = .ok (.iload_n 1, 1) := by decide +kernel
theorem dX8_boxTold_168 : decode cX8_boxTold 168 = .ok (.iaload, 1) := by decide +kernel
theorem dX8_boxTold_169 : decode cX8_boxTold 169 = .ok (.ireturn, 1) := by decide +kernel
theorem dX8_box_0 : decode cX8_box 0 = .ok (.aload_n 0, 1) := by decide +kernel
theorem dX8_box_1 : decode cX8_box 1 = .ok (.iconst 0, 1) := by decide +kernel
theorem dX8_box_2 : decode cX8_box 2 = .ok (.putfield 23, 3) := by decide +kernel
theorem dX8_box_5 : decode cX8_box 5 = .ok (.aload_n 0, 1) := by decide +kernel
theorem dX8_box_6 : decode cX8_box 6 = .ok (.iload_n 1, 1) := by decide +kernel
theorem dX8_box_7 : decode cX8_box 7 = .ok (.invokevirtual 50, 3) := by decide +kernel
theorem dX8_box_10 : decode cX8_box 10 = .ok (.ifCond .eq 22, 3) := by decide +kernel
theorem dX8_box_13 : decode cX8_box 13 = .ok (.iload_n 2, 1) := by decide +kernel
theorem dX8_box_14 : decode cX8_box 14 = .ok (.iconst 0, 1) := by decide +kernel
theorem dX8_box_15 : decode cX8_box 15 = .ok (.bipush 11, 2) := by decide +kernel
theorem dX8_box_17 : decode cX8_box 17 = .ok (.invokestatic 27, 3) := by decide +kernel
theorem dX8_box_20 : decode cX8_box 20 = .ok (.ifCond .eq 12, 3) := by decide +kernel
theorem dX8_box_23 : decode cX8_box 23 = .ok (.aload_n 0, 1) := by decide +kernel
theorem dX8_box_24 : decode cX8_box 24 = .ok (.iload_n 1, 1) := by decide +kernel
theorem dX8_box_25 : decode cX8_box 25 = .ok (.iload_n 2, 1) := by decide +kernel
theorem dX8_box_26 : decode cX8_box 26 = .ok (.invokevirtual 75, 3) := by decide +kernel
theorem dX8_box_29 : decode cX8_box 29 = .ok (.goto 8, 3) := by decide +kernel
theorem dX8_box_32 : decode cX8_box 32 = .ok (.aload_n 0, 1) := by decide +kernel
theorem dX8_box_33 : decode cX8_box 33 = .ok (.iconst 1, 1) := by decide +kernel
theorem dX8_box_34 : decode cX8_box 34 = .ok (.invokevirtual 31, 3) := by decide +kernel
theorem dX8_box_37 : decode cX8_box 37 = .ok (.ireturn, 1) := by decide +kernel
theorem dX8_bring_0 : decode cX8_bring 0 = .ok (.aload_n 0, 1) := by decide +kernel
theorem dX8_bring_1 : decode cX8_bring 1 = .ok (.iconst 0, 1) := by decide +kernel
theorem dX8_bring_2 : decode cX8_bring 2 = .ok (.putfield 23, 3) := by decide +kernel
theorem dX8_bring_5 : decode cX8_bring 5 = .ok (.iload_n 1, 1) := by decide +kernel
theorem dX8_bring_6 : decode cX8_bring 6 = .ok (.iconst 1, 1) := by decide +kernel
theorem dX8_bring_7 : decode cX8_bring 7 = .ok (.sipush 5000, 3) := by decide +kernel
theorem dX8_bring_10 : decode cX8_bring 10 = .ok (.invokestatic 27, 3) := by decide +kernel
theorem dX8_bring_13 : decode cX8_bring 13 = .ok (.ifCond .eq 24, 3) := by decide +kernel
theorem dX8_bring_16 : decode cX8_bring 16 = .ok (.iload_n 2, 1) := by decide +kernel
theorem dX8_bring_17 : decode cX8_bring 17 = .ok (.iconst 0, 1) := by decide +kernel
theorem dX8_bring_18 : decode cX8_bring 18 = .ok (.sipush 1000, 3) := by decide +kernel
theorem dX8_bring_21 : decode cX8_bring 21 = .ok (.invokestatic 27, 3) := by decide +kernel
theorem dX8_bring_24 : decode cX8_bring 24 = .ok (.ifCond .eq 13, 3) := by decide +kernel
theorem dX8_bring_27 : decode cX8_bring 27 = .ok (.iload_n 3, 1) := by decide +kernel
theorem dX8_bring_28 : decode cX8_bring 28 = .ok (.iconst 1, 1) := by decide +kernel
theorem dX8_bring_29 : decode cX8_bring 29 = .ok (.bipush 9, 2) := by decide +kernel
theorem dX8_bring_31 : decode cX8_bring 31 = .ok (.invokestatic 27, 3) := by decide +kernel
theorem dX8_bring_34 : decode cX8_bring 34 = .ok (.ifCond .ne 9, 3) := by decide +kernel
theorem dX8_bring_37 : decode cX8_bring 37 = .ok (.aload_n 0, 1) := by decide +kernel
theorem dX8_bring_38 : decode cX8_bring 38 = .ok (.iconst 1, 1) := by decide +kernel
theorem dX8_bring_39 : decode cX8_bring 39 = .ok (.invokevirtual 31, 3) := by decide +kernel
theorem dX8_bring_42 : decode cX8_bring 42 = .ok (.ireturn, 1) := by decide +kernel
theorem dX8_bring_43 : decode cX8_bring 43 = .ok (.aload_n 0, 1) := by decide +kernel
theorem dX8_bring_44 : decode cX8_bring 44 = .ok (.getfield 10, 3) := by decide +kernel
theorem dX8_bring_47 : decode cX8_bring 47 = .ok (.getfield 79, 3) := by decide +kernel
theorem dX8_bring_50 : decode cX8_bring 50 = .ok (.bipush 30, 2) := by decide +kernel
theorem dX8_bring_52 : decode cX8_bring 52 = .ok (.if_icmp .ne 9, 3) := by decide +kernel
theorem dX8_bring_55 : decode cX8_bring 55 = .ok (.aload_n 0, 1) := by decide +kernel
theorem dX8_bring_56 : decode cX8_bring 56 = .ok (.iconst 2, 1) := by decide +kernel
theorem dX8_bring_57 : decode cX8_bring 57 = .ok (.invokevirtual 31, 3) := by decide +kernel
theorem dX8_bring_60 : decode cX8_bring 60 = .ok (.ireturn, 1) := by decide +kernel
theorem dX8_bring_61 : decode cX8_bring 61 = .ok (.iload_n 1, 1) := by decide +kernel
theorem dX8_bring_62 : decode cX8_bring 62 = .ok (.iload_n 2, 1) := by decide +kernel
theorem dX8_bring_63 : decode cX8_bring 63 = .ok (.imul, 1) := by decide +kernel
theorem dX8_bring_64 : decode cX8_bring 64 = .ok (.sipush 1000, 3) := by decide +kernel
theorem dX8_bring_67 : decode cX8_bring 67 = .ok (.idiv, 1) := by decide +kernel
theorem dX8_bring_68 : decode cX8_bring 68 = .ok (.istore 4, 2) := by decide +kernel
theorem dX8_bring_70 : decode cX8_bring 70 = .ok (.aload_n 0, 1) := by decide +kernel
theorem dX8_bring_71 : decode cX8_bring 71 = .ok (.getfield 10, 3) := by decide +kernel
theorem dX8_bring_74 : decode cX8_bring 74 = .ok (.iload_n 1, 1) := by decide +kernel
theorem dX8_bring_75 : decode cX8_bring 75 = .ok (.iload 4, 2) := by decide +kernel
theorem dX8_bring_77 : decode cX8_bring 77 = .ok (.isub, 1) := by decide +kernel
theorem dX8_bring_78 : decode cX8_bring 78 = .ok (.iload 4, 2) := by decide +kernel
theorem dX8_bring_80 : decode cX8_bring 80 = .ok (.iload_n 3, 1) := by decide +kernel
theorem dX8_bring_81 : decode cX8_bring 81 = .ok (.invokevirtual 82, 3) := by decide +kernel
theorem dX8_bring_84 : decode cX8_bring 84 = .ok (.aload_n 0, 1) := by decide +kernel
theorem dX8_bring_85 : decode cX8_bring 85 = .ok (.getfield 10, 3) := by decide +kernel
theorem dX8_bring_88 : decode cX8_bring 88 = .ok (.getfield 79, 3) := by decide +kernel
theorem dX8_bring_91 : decode cX8_bring 91 = .ok (.ireturn, 1) := by decide +kernel
theorem dX8_lot_0 : decode cX8_lot 0 = .ok (.aload_n 0, 1) := by decide +kernel
theorem dX8_lot_1 : decode cX8_lot 1 = .ok (.iconst 0, 1) := by decide +kernel
theorem dX8_lot_2 : decode cX8_lot 2 = .ok (.putfield 23, 3) := by decide +kernel
theorem dX8_lot_5 : decode cX8_lot 5 = .ok (.iload_n 1, 1) := by decide +kernel
theorem dX8_lot_6 : decode cX8_lot 6 = .ok (.iconst 0, 1) := by decide +kernel
theorem dX8_lot_7 : decode cX8_lot 7 = .ok (.aload_n 0, 1) := by decide +kernel
theorem dX8_lot_8 : decode cX8_lot 8 = .ok (.getfield 10, 3) := by decide +kernel
theorem dX8_lot_11 : decode cX8_lot 11 = .ok (.getfield 79, 3) := by decide +kernel
theorem dX8_lot_14 : decode cX8_lot 14 = .ok (.iconst 1, 1) := by decide +kernel
theorem dX8_lot_15 : decode cX8_lot 15 = .ok (.isub, 1) := by decide +kernel
theorem dX8_lot_16 : decode cX8_lot 16 = .ok (.invokestatic 27, 3) := by decide +kernel
theorem dX8_lot_19 : decode cX8_lot 19 = .ok (.ifCond .eq 28, 3) := by decide +kernel
theorem dX8_lot_22 : decode cX8_lot 22 = .ok (.iload_n 2, 1) := by decide +kernel
theorem dX8_lot_23 : decode cX8_lot 23 = .ok (.iconst 0, 1) := by decide +kernel
theorem dX8_lot_24 : decode cX8_lot 24 = .ok (.iconst 2, 1) := by decide +kernel
theorem dX8_lot_25 : decode cX8_lot 25 = .ok (.invokestatic 27, 3) := by decide +kernel
theorem dX8_lot_28 : decode cX8_lot 28 = .ok (.ifCond .eq 19, 3) := by decide +kernel
theorem dX8_lot_31 : decode cX8_lot 31 = .ok (.aload_n 0, 1) := by decide +kernel
theorem dX8_lot_32 : decode cX8_lot 32 = .ok (.getfield 10, 3) := by decide +kernel
theorem dX8_lot_35 : decode cX8_lot 35 = .ok (.getfield 86, 3) := by decide +kernel
theorem dX8_lot_38 : decode cX8_lot 38 = .ok (.iconst 3, 1) := by decide +kernel
theorem dX8_lot_39 : decode cX8_lot 39 = .ok (.iload_n 1, 1) := by decide +kernel
theorem dX8_lot_40 : decode cX8_lot 40 = .ok (.imul, 1) := by decide +kernel
theorem dX8_lot_41 : decode cX8_lot 41 = .ok (.iload_n 2, 1) := by decide +kernel
theorem dX8_lot_42 : decode cX8_lot 42 = .ok (.iadd, 1) := by decide +kernel
theorem dX8_lot_43 : decode cX8_lot 43 = .ok (.iaload, 1) := by decide +kernel
theorem dX8_lot_44 : decode cX8_lot 44 = .ok (.goto 8, 3) := by decide +kernel
theorem dX8_lot_47 : decode cX8_lot 47 = .ok (.aload_n 0, 1) := by decide +kernel
theorem dX8_lot_48 : decode cX8_lot 48 = .ok (.iconst 1, 1) := by decide +kernel
theorem dX8_lot_49 : decode cX8_lot 49 = .ok (.invokevirtual 31, 3) := by decide +kernel
theorem dX8_lot_52 : decode cX8_lot 52 = .ok (.ireturn, 1) := by decide +kernel
theorem dX8_run_0 : decode cX8_run 0 = .ok (.iconst 0, 1) := by decide +kernel
theorem dX8_run_1 : decode cX8_run 1 = .ok (.istore_n 2, 1) := by decide +kernel
theorem dX8_run_2 : decode cX8_run 2 = .ok (.iconst 0, 1) := by decide +kernel
theorem dX8_run_3 : decode cX8_run 3 = .ok (.istore_n 3, 1) := by decide +kernel
theorem dX8_run_4 : decode cX8_run 4 = .ok (.iload_n 3, 1) := by decide +kernel
theorem dX8_run_5 : decode cX8_run 5 = .ok (.iload_n 1, 1) := by decide +kernel
theorem dX8_run_6 : decode cX8_run 6 = .ok (.if_icmp .ge 16, 3) := by decide +kernel
theorem dX8_run_9 : decode cX8_run 9 = .ok (.iload_n 2, 1) := by decide +kernel
theorem dX8_run_10 : decode cX8_run 10 = .ok (.aload_n 0, 1) := by decide +kernel
theorem dX8_run_11 : decode cX8_run 11 = .ok (.invokevirtual 89, 3) := by decide +kernel
theorem dX8_run_14 : decode cX8_run 14 = .ok (.iadd, 1) := by decide +kernel
theorem dX8_run_15 : decode cX8_run 15 = .ok (.istore_n 2, 1) := by decide +kernel
theorem dX8_run_16 : decode cX8_run 16 = .ok (.iinc 3 1, 3) := by decide +kernel
theorem dX8_run_19 : decode cX8_run 19 = .ok (.goto (-15), 3) := by decide +kernel
theorem dX8_run_22 : decode cX8_run 22 = .ok (.iload_n 2, 1) := by decide +kernel
theorem dX8_run_23 : decode cX8_run 23 = .ok (.ireturn, 1) := by decide +kernel
theorem dX8_run__0 : decode cX8_run_ 0 = .ok (.aload_n 0, 1) := by decide +kernel
theorem dX8_run__1 : decode cX8_run_ 1 = .ok (.iconst 0, 1) := by decide +kernel
theorem dX8_run__2 : decode cX8_run_ 2 = .ok (.putfield 23, 3) := by decide +kernel
theorem dX8_run__5 : decode cX8_run_ 5 = .ok (.iload_n 1, 1) := by decide +kernel
theorem dX8_run__6 : decode cX8_run_ 6 = .ok (.iconst 1, 1) := by decide +kernel
theorem dX8_run__7 : decode cX8_run_ 7 = .ok (.bipush 100, 2) := by decide +kernel
theorem dX8_run__9 : decode cX8_run_ 9 = .ok (.invokestatic 27, 3) := by decide +kernel
theorem dX8_run__12 : decode cX8_run_ 12 = .ok (.ifCond .ne 9, 3) := by decide +kernel
theorem dX8_run__15 : decode cX8_run_ 15 = .ok (.aload_n 0, 1) := by decide +kernel
theorem dX8_run__16 : decode cX8_run_ 16 = .ok (.iconst 1, 1) := by decide +kernel
theorem dX8_run__17 : decode cX8_run_ 17 = .ok (.invokevirtual 31, 3) := by decide +kernel
theorem dX8_run__20 : decode cX8_run_ 20 = .ok (.ireturn, 1) := by decide +kernel
theorem dX8_run__21 : decode cX8_run_ 21 = .ok (.aload_n 0, 1) := by decide +kernel
theorem dX8_run__22 : decode cX8_run_ 22 = .ok (.getfield 10, 3) := by decide +kernel
theorem dX8_run__25 : decode cX8_run_ 25 = .ok (.getfield 93, 3) := by decide +kernel
theorem dX8_run__28 : decode cX8_run_ 28 = .ok (.iload_n 1, 1) := by decide +kernel
theorem dX8_run__29 : decode cX8_run_ 29 = .ok (.iadd, 1) := by decide +kernel
theorem dX8_run__30 : decode cX8_run_ 30 = .ok (.sipush 5000, 3) := by decide +kernel
theorem dX8_run__33 : decode cX8_run_ 33 = .ok (.if_icmp .le 9, 3) := by decide +kernel
theorem dX8_run__36 : decode cX8_run_ 36 = .ok (.aload_n 0, 1) := by decide +kernel
theorem dX8_run__37 : decode cX8_run_ 37 = .ok (.iconst 2, 1) := by decide +kernel
theorem dX8_run__38 : decode cX8_run_ 38 = .ok (.invokevirtual 31, 3) := by decide +kernel
theorem dX8_run__41 : decode cX8_run_ 41 = .ok (.ireturn, 1) := by decide +kernel
theorem dX8_run__42 : decode cX8_run_ 42 = .ok (.aload_n 0, 1) := by decide +kernel
theorem dX8_run__43 : decode cX8_run_ 43 = .ok (.getfield 10, 3) := by decide +kernel
theorem dX8_run__46 : decode cX8_run_ 46 = .ok (.iload_n 1, 1) := by decide +kernel
theorem dX8_run__47 : decode cX8_run_ 47 = .ok (.invokestatic 96, 3) := by decide +kernel
theorem dX8_run__50 : decode cX8_run_ 50 = .ok (.ireturn, 1) := by decide +kernel
theorem dX8_tinInBoxes_0 : decode cX8_tinInBoxes 0 = .ok (.iconst 0, 1) := by decide +kernel
theorem dX8_tinInBoxes_1 : decode cX8_tinInBoxes 1 = .ok (.istore_n 1, 1) := by decide +kernel
theorem dX8_tinInBoxes_2 : decode cX8_tinInBoxes 2 = .ok (.iconst 0, 1) := by decide +kernel
theorem dX8_tinInBoxes_3 : decode cX8_tinInBoxes 3 = .ok (.istore_n 2, 1) := by decide +kernel
theorem dX8_tinInBoxes_4 : decode cX8_tinInBoxes 4 = .ok (.iload_n 2, 1) := by decide +kernel
theorem dX8_tinInBoxes_5 : decode cX8_tinInBoxes 5 = .ok (.aload_n 0, 1) := by decide +kernel
theorem dX8_tinInBoxes_6 : decode cX8_tinInBoxes 6 = .ok (.getfield 10, 3) := by decide +kernel
theorem dX8_tinInBoxes_9 : decode cX8_tinInBoxes 9 = .ok (.getfield 41, 3) := by decide +kernel
theorem dX8_tinInBoxes_12 : decode cX8_tinInBoxes 12 = .ok (.iconst 3, 1) := by decide +kernel
theorem dX8_tinInBoxes_13 : decode cX8_tinInBoxes 13 = .ok (.imul, 1) := by decide +kernel
theorem dX8_tinInBoxes_14 : decode cX8_tinInBoxes 14 = .ok (.if_icmp .ge 25, 3) := by decide +kernel
theorem dX8_tinInBoxes_17 : decode cX8_tinInBoxes 17 = .ok (.iload_n 1, 1) := by decide +kernel
theorem dX8_tinInBoxes_18 : decode cX8_tinInBoxes 18 = .ok (.aload_n 0, 1) := by decide +kernel
theorem dX8_tinInBoxes_19 : decode cX8_tinInBoxes 19 = .ok (.getfield 10, 3) := by decide +kernel
theorem dX8_tinInBoxes_22 : decode cX8_tinInBoxes 22 = .ok (.getfield 69, 3) := by decide +kernel
theorem dX8_tinInBoxes_25 : decode cX8_tinInBoxes 25 = .ok (.iconst 2, 1) := by decide +kernel
theorem dX8_tinInBoxes_26 : decode cX8_tinInBoxes 26 = .ok (.iload_n 2, 1) := by decide +kernel
theorem dX8_tinInBoxes_27 : decode cX8_tinInBoxes 27 = .ok (.imul, 1) := by decide +kernel
theorem dX8_tinInBoxes_28 : decode cX8_tinInBoxes 28 = .ok (.iconst 1, 1) := by decide +kernel
theorem dX8_tinInBoxes_29 : decode cX8_tinInBoxes 29 = .ok (.iadd, 1) := by decide +kernel
theorem dX8_tinInBoxes_30 : decode cX8_tinInBoxes 30 = .ok (.iaload, 1) := by decide +kernel
theorem dX8_tinInBoxes_31 : decode cX8_tinInBoxes 31 = .ok (.iadd, 1) := by decide +kernel
theorem dX8_tinInBoxes_32 : decode cX8_tinInBoxes 32 = .ok (.istore_n 1, 1) := by decide +kernel
theorem dX8_tinInBoxes_33 : decode cX8_tinInBoxes 33 = .ok (.iinc 2 1, 3) := by decide +kernel
theorem dX8_tinInBoxes_36 : decode cX8_tinInBoxes 36 = .ok (.goto (-32), 3) := by decide +kernel
theorem dX8_tinInBoxes_39 : decode cX8_tinInBoxes 39 = .ok (.iload_n 1, 1) := by decide +kernel
theorem dX8_tinInBoxes_40 : decode cX8_tinInBoxes 40 = .ok (.ireturn, 1) := by decide +kernel
theorem dX8_counted_0 : decode cX8_counted 0 = .ok (.bipush 14, 2) := by decide +kernel
theorem dX8_counted_2 : decode cX8_counted 2 = .ok (.newarray .int, 2) := by decide +kernel
theorem dX8_counted_4 : decode cX8_counted 4 = .ok (.dup, 1) := by decide +kernel
theorem dX8_counted_5 : decode cX8_counted 5 = .ok (.iconst 0, 1) := by decide +kernel
theorem dX8_counted_6 : decode cX8_counted 6 = .ok (.aload_n 0, 1) := by decide +kernel
theorem dX8_counted_7 : decode cX8_counted 7 = .ok (.getfield 10, 3) := by decide +kernel
theorem dX8_counted_10 : decode cX8_counted 10 = .ok (.getfield 93, 3) := by decide +kernel
theorem dX8_counted_13 : decode cX8_counted 13 = .ok (.iastore, 1) := by decide +kernel
theorem dX8_counted_14 : decode cX8_counted 14 = .ok (.dup, 1) := by decide +kernel
theorem dX8_counted_15 : decode cX8_counted 15 = .ok (.iconst 1, 1) := by decide +kernel
theorem dX8_counted_16 : decode cX8_counted 16 = .ok (.aload_n 0, 1) := by decide +kernel
theorem dX8_counted_17 : decode cX8_counted 17 = .ok (.getfield 10, 3) := by decide +kernel
theorem dX8_counted_20 : decode cX8_counted 20 = .ok (.getfield 100, 3) := by decide +kernel
theorem dX8_counted_23 : decode cX8_counted 23 = .ok (.iastore, 1) := by decide +kernel
theorem dX8_counted_24 : decode cX8_counted 24 = .ok (.dup, 1) := by decide +kernel
theorem dX8_counted_25 : decode cX8_counted 25 = .ok (.iconst 2, 1) := by decide +kernel
theorem dX8_counted_26 : decode cX8_counted 26 = .ok (.aload_n 0, 1) := by decide +kernel
theorem dX8_counted_27 : decode cX8_counted 27 = .ok (.getfield 10, 3) := by decide +kernel
theorem dX8_counted_30 : decode cX8_counted 30 = .ok (.getfield 38, 3) := by decide +kernel
theorem dX8_counted_33 : decode cX8_counted 33 = .ok (.iastore, 1) := by decide +kernel
theorem dX8_counted_34 : decode cX8_counted 34 = .ok (.dup, 1) := by decide +kernel
theorem dX8_counted_35 : decode cX8_counted 35 = .ok (.iconst 3, 1) := by decide +kernel
theorem dX8_counted_36 : decode cX8_counted 36 = .ok (.aload_n 0, 1) := by decide +kernel
theorem dX8_counted_37 : decode cX8_counted 37 = .ok (.getfield 10, 3) := by decide +kernel
theorem dX8_counted_40 : decode cX8_counted 40 = .ok (.getfield 41, 3) := by decide +kernel
theorem dX8_counted_43 : decode cX8_counted 43 = .ok (.iastore, 1) := by decide +kernel
theorem dX8_counted_44 : decode cX8_counted 44 = .ok (.dup, 1) := by decide +kernel
theorem dX8_counted_45 : decode cX8_counted 45 = .ok (.iconst 4, 1) := by decide +kernel
theorem dX8_counted_46 : decode cX8_counted 46 = .ok (.aload_n 0, 1) := by decide +kernel
theorem dX8_counted_47 : decode cX8_counted 47 = .ok (.getfield 10, 3) := by decide +kernel
theorem dX8_counted_50 : decode cX8_counted 50 = .ok (.getfield 79, 3) := by decide +kernel
theorem dX8_counted_53 : decode cX8_counted 53 = .ok (.iastore, 1) := by decide +kernel
theorem dX8_counted_54 : decode cX8_counted 54 = .ok (.dup, 1) := by decide +kernel
theorem dX8_counted_55 : decode cX8_counted 55 = .ok (.iconst 5, 1) := by decide +kernel
theorem dX8_counted_56 : decode cX8_counted 56 = .ok (.aload_n 0, 1) := by decide +kernel
theorem dX8_counted_57 : decode cX8_counted 57 = .ok (.getfield 10, 3) := by decide +kernel
theorem dX8_counted_60 : decode cX8_counted 60 = .ok (.invokevirtual 103, 3) := by decide +kernel
theorem dX8_counted_63 : decode cX8_counted 63 = .ok (.iastore, 1) := by decide +kernel
theorem dX8_counted_64 : decode cX8_counted 64 = .ok (.dup, 1) := by decide +kernel
theorem dX8_counted_65 : decode cX8_counted 65 = .ok (.bipush 6, 2) := by decide +kernel
theorem dX8_counted_67 : decode cX8_counted 67 = .ok (.aload_n 0, 1) := by decide +kernel
theorem dX8_counted_68 : decode cX8_counted 68 = .ok (.getfield 10, 3) := by decide +kernel
theorem dX8_counted_71 : decode cX8_counted 71 = .ok (.invokevirtual 106, 3) := by decide +kernel
theorem dX8_counted_74 : decode cX8_counted 74 = .ok (.iastore, 1) := by decide +kernel
theorem dX8_counted_75 : decode cX8_counted 75 = .ok (.dup, 1) := by decide +kernel
theorem dX8_counted_76 : decode cX8_counted 76 = .ok (.bipush 7, 2) := by decide +kernel
theorem dX8_counted_78 : decode cX8_counted 78 = .ok (.aload_n 0, 1) := by decide +kernel
theorem dX8_counted_79 : decode cX8_counted 79 = .ok (.getfield 19, 3) := by decide +kernel
theorem dX8_counted_82 : decode cX8_counted 82 = .ok (.iconst 0, 1) := by decide +kernel
theorem dX8_counted_83 : decode cX8_counted 83 = .ok (.iaload, 1) := by decide +kernel
theorem dX8_counted_84 : decode cX8_counted 84 = .ok (.iastore, 1) := by decide +kernel
theorem dX8_counted_85 : decode cX8_counted 85 = .ok (.dup, 1) := by decide +kernel
theorem dX8_counted_86 : decode cX8_counted 86 = .ok (.bipush 8, 2) := by decide +kernel
theorem dX8_counted_88 : decode cX8_counted 88 = .ok (.aload_n 0, 1) := by decide +kernel
theorem dX8_counted_89 : decode cX8_counted 89 = .ok (.getfield 19, 3) := by decide +kernel
theorem dX8_counted_92 : decode cX8_counted 92 = .ok (.iconst 1, 1) := by decide +kernel
theorem dX8_counted_93 : decode cX8_counted 93 = .ok (.iaload, 1) := by decide +kernel
theorem dX8_counted_94 : decode cX8_counted 94 = .ok (.iastore, 1) := by decide +kernel
theorem dX8_counted_95 : decode cX8_counted 95 = .ok (.dup, 1) := by decide +kernel
theorem dX8_counted_96 : decode cX8_counted 96 = .ok (.bipush 9, 2) := by decide +kernel
theorem dX8_counted_98 : decode cX8_counted 98 = .ok (.aload_n 0, 1) := by decide +kernel
theorem dX8_counted_99 : decode cX8_counted 99 = .ok (.getfield 10, 3) := by decide +kernel
theorem dX8_counted_102 : decode cX8_counted 102 = .ok (.getfield 109, 3) := by decide +kernel
theorem dX8_counted_105 : decode cX8_counted 105 = .ok (.iastore, 1) := by decide +kernel
theorem dX8_counted_106 : decode cX8_counted 106 = .ok (.dup, 1) := by decide +kernel
theorem dX8_counted_107 : decode cX8_counted 107 = .ok (.bipush 10, 2) := by decide +kernel
theorem dX8_counted_109 : decode cX8_counted 109 = .ok (.aload_n 0, 1) := by decide +kernel
theorem dX8_counted_110 : decode cX8_counted 110 = .ok (.getfield 112, 3) := by decide +kernel
theorem dX8_counted_113 : decode cX8_counted 113 = .ok (.iastore, 1) := by decide +kernel
theorem dX8_counted_114 : decode cX8_counted 114 = .ok (.dup, 1) := by decide +kernel
theorem dX8_counted_115 : decode cX8_counted 115 = .ok (.bipush 11, 2) := by decide +kernel
theorem dX8_counted_117 : decode cX8_counted 117 = .ok (.aload_n 0, 1) := by decide +kernel
theorem dX8_counted_118 : decode cX8_counted 118 = .ok (.getfield 115, 3) := by decide +kernel
theorem dX8_counted_121 : decode cX8_counted 121 = .ok (.iastore, 1) := by decide +kernel
theorem dX8_counted_122 : decode cX8_counted 122 = .ok (.dup, 1) := by decide +kernel
theorem dX8_counted_123 : decode cX8_counted 123 = .ok (.bipush 12, 2) := by decide +kernel
theorem dX8_counted_125 : decode cX8_counted 125 = .ok (.aload_n 0, 1) := by decide +kernel
theorem dX8_counted_126 : decode cX8_counted 126 = .ok (.getfield 118, 3) := by decide +kernel
theorem dX8_counted_129 : decode cX8_counted 129 = .ok (.iastore, 1) := by decide +kernel
theorem dX8_counted_130 : decode cX8_counted 130 = .ok (.dup, 1) := by decide +kernel
theorem dX8_counted_131 : decode cX8_counted 131 = .ok (.bipush 13, 2) := by decide +kernel
theorem dX8_counted_133 : decode cX8_counted 133 = .ok (.aload_n 0, 1) := by decide +kernel
theorem dX8_counted_134 : decode cX8_counted 134 = .ok (.invokevirtual 121, 3) := by decide +kernel
theorem dX8_counted_137 : decode cX8_counted 137 = .ok (.iastore, 1) := by decide +kernel
theorem dX8_counted_138 : decode cX8_counted 138 = .ok (.astore_n 2, 1) := by decide +kernel
theorem dX8_counted_139 : decode cX8_counted 139 = .ok (.aload_n 2, 1) := by decide +kernel
theorem dX8_counted_140 : decode cX8_counted 140 = .ok (.iload_n 1, 1) := by decide +kernel
theorem dX8_counted_141 : decode cX8_counted 141 = .ok (.iaload, 1) := by decide +kernel
theorem dX8_counted_142 : decode cX8_counted 142 = .ok (.ireturn, 1) := by decide +kernel
theorem dX8_count_0 : decode cX8_count 0 = .ok (.aload_n 0, 1) := by decide +kernel
theorem dX8_count_1 : decode cX8_count 1 = .ok (.iconst 0, 1) := by decide +kernel
theorem dX8_count_2 : decode cX8_count 2 = .ok (.putfield 23, 3) := by decide +kernel
theorem dX8_count_5 : decode cX8_count 5 = .ok (.iload_n 1, 1) := by decide +kernel
theorem dX8_count_6 : decode cX8_count 6 = .ok (.iconst 0, 1) := by decide +kernel
theorem dX8_count_7 : decode cX8_count 7 = .ok (.bipush 13, 2) := by decide +kernel
theorem dX8_count_9 : decode cX8_count 9 = .ok (.invokestatic 27, 3) := by decide +kernel
theorem dX8_count_12 : decode cX8_count 12 = .ok (.ifCond .eq 11, 3) := by decide +kernel
theorem dX8_count_15 : decode cX8_count 15 = .ok (.aload_n 0, 1) := by decide +kernel
theorem dX8_count_16 : decode cX8_count 16 = .ok (.iload_n 1, 1) := by decide +kernel
theorem dX8_count_17 : decode cX8_count 17 = .ok (.invokevirtual 124, 3) := by decide +kernel
theorem dX8_count_20 : decode cX8_count 20 = .ok (.goto 8, 3) := by decide +kernel
theorem dX8_count_23 : decode cX8_count 23 = .ok (.aload_n 0, 1) := by decide +kernel
theorem dX8_count_24 : decode cX8_count 24 = .ok (.iconst 1, 1) := by decide +kernel
theorem dX8_count_25 : decode cX8_count 25 = .ok (.invokevirtual 31, 3) := by decide +kernel
theorem dX8_count_28 : decode cX8_count 28 = .ok (.ireturn, 1) := by decide +kernel
theorem dX8_grade_0 : decode cX8_grade 0 = .ok (.lload_n 0, 1) := by decide +kernel
theorem dX8_grade_1 : decode cX8_grade 1 = .ok (.lload_n 2, 1) := by decide +kernel
theorem dX8_grade_2 : decode cX8_grade 2 = .ok (.ladd, 1) := by decide +kernel
theorem dX8_grade_3 : decode cX8_grade 3 = .ok (.lconst 0, 1) := by decide +kernel
theorem dX8_grade_4 : decode cX8_grade 4 = .ok (.lcmp, 1) := by decide +kernel
theorem dX8_grade_5 : decode cX8_grade 5 = .ok (.ifCond .ne 7, 3) := by decide +kernel
theorem dX8_grade_8 : decode cX8_grade 8 = .ok (.iconst 0, 1) := by decide +kernel
theorem dX8_grade_9 : decode cX8_grade 9 = .ok (.goto 13, 3) := by decide +kernel
theorem dX8_grade_12 : decode cX8_grade 12 = .ok (.lload_n 2, 1) := by decide +kernel
theorem dX8_grade_13 : decode cX8_grade 13 = .ok (.ldc2_w 127, 3) := by decide +kernel
theorem dX8_grade_16 : decode cX8_grade 16 = .ok (.lmul, 1) := by decide +kernel
theorem dX8_grade_17 : decode cX8_grade 17 = .ok (.lload_n 0, 1) := by decide +kernel
theorem dX8_grade_18 : decode cX8_grade 18 = .ok (.lload_n 2, 1) := by decide +kernel
theorem dX8_grade_19 : decode cX8_grade 19 = .ok (.ladd, 1) := by decide +kernel
theorem dX8_grade_20 : decode cX8_grade 20 = .ok (.ldiv, 1) := by decide +kernel
theorem dX8_grade_21 : decode cX8_grade 21 = .ok (.l2i, 1) := by decide +kernel
theorem dX8_grade_22 : decode cX8_grade 22 = .ok (.ireturn, 1) := by decide +kernel
theorem dX8_buddleTold_0 : decode cX8_buddleTold 0 = .ok (.iload_n 2, 1) := by decide +kernel
theorem dX8_buddleTold_1 : decode cX8_buddleTold 1 = .ok (.iconst 2, 1) := by decide +kernel
theorem dX8_buddleTold_2 : decode cX8_buddleTold 2 = .ok (.if_icmp .ge 19, 3) := by decide +kernel
theorem dX8_buddleTold_5 : decode cX8_buddleTold 5 = .ok (.aload_n 0, 1) := by decide +kernel
theorem dX8_buddleTold_6 : decode cX8_buddleTold 6 = .ok (.getfield 10, 3) := by decide +kernel
theorem dX8_buddleTold_9 : decode cX8_buddleTold 9 = .ok (.getfield 129, 3) := by decide +kernel
theorem dX8_buddleTold_12 : decode cX8_buddleTold 12 = .ok (.iconst 2, 1) := by decide +kernel
theorem dX8_buddleTold_13 : decode cX8_buddleTold 13 = .ok (.iload_n 1, 1) := by decide +kernel
theorem dX8_buddleTold_14 : decode cX8_buddleTold 14 = .ok (.imul, 1) := by decide +kernel
theorem dX8_buddleTold_15 : decode cX8_buddleTold 15 = .ok (.iload_n 2, 1) := by decide +kernel
theorem dX8_buddleTold_16 : decode cX8_buddleTold 16 = .ok (.iadd, 1) := by decide +kernel
theorem dX8_buddleTold_17 : decode cX8_buddleTold 17 = .ok (.iaload, 1) := by decide +kernel
theorem dX8_buddleTold_18 : decode cX8_buddleTold 18 = .ok (.goto 32, 3) := by decide +kernel
theorem dX8_buddleTold_21 : decode cX8_buddleTold 21 = .ok (.aload_n 0, 1) := by decide +kernel
theorem dX8_buddleTold_22 : decode cX8_buddleTold 22 = .ok (.getfield 10, 3) := by decide +kernel
theorem dX8_buddleTold_25 : decode cX8_buddleTold 25 = .ok (.getfield 129, 3) := by decide +kernel
theorem dX8_buddleTold_28 : decode cX8_buddleTold 28 = .ok (.iconst 2, 1) := by decide +kernel
theorem dX8_buddleTold_29 : decode cX8_buddleTold 29 = .ok (.iload_n 1, 1) := by decide +kernel
theorem dX8_buddleTold_30 : decode cX8_buddleTold 30 = .ok (.imul, 1) := by decide +kernel
theorem dX8_buddleTold_31 : decode cX8_buddleTold 31 = .ok (.iaload, 1) := by decide +kernel
theorem dX8_buddleTold_32 : decode cX8_buddleTold 32 = .ok (.i2l, 1) := by decide +kernel
theorem dX8_buddleTold_33 : decode cX8_buddleTold 33 = .ok (.aload_n 0, 1) := by decide +kernel
theorem dX8_buddleTold_34 : decode cX8_buddleTold 34 = .ok (.getfield 10, 3) := by decide +kernel
theorem dX8_buddleTold_37 : decode cX8_buddleTold 37 = .ok (.getfield 129, 3) := by decide +kernel
theorem dX8_buddleTold_40 : decode cX8_buddleTold 40 = .ok (.iconst 2, 1) := by decide +kernel
theorem dX8_buddleTold_41 : decode cX8_buddleTold 41 = .ok (.iload_n 1, 1) := by decide +kernel
theorem dX8_buddleTold_42 : decode cX8_buddleTold 42 = .ok (.imul, 1) := by decide +kernel
theorem dX8_buddleTold_43 : decode cX8_buddleTold 43 = .ok (.iconst 1, 1) := by decide +kernel
theorem dX8_buddleTold_44 : decode cX8_buddleTold 44 = .ok (.iadd, 1) := by decide +kernel
theorem dX8_buddleTold_45 : decode cX8_buddleTold 45 = .ok (.iaload, 1) := by decide +kernel
theorem dX8_buddleTold_46 : decode cX8_buddleTold 46 = .ok (.i2l, 1) := by decide +kernel
theorem dX8_buddleTold_47 : decode cX8_buddleTold 47 = .ok (.invokestatic 132, 3) := by decide +kernel
theorem dX8_buddleTold_50 : decode cX8_buddleTold 50 = .ok (.ireturn, 1) := by decide +kernel
theorem dX8_buddle_0 : decode cX8_buddle 0 = .ok (.aload_n 0, 1) := by decide +kernel
theorem dX8_buddle_1 : decode cX8_buddle 1 = .ok (.iconst 0, 1) := by decide +kernel
theorem dX8_buddle_2 : decode cX8_buddle 2 = .ok (.putfield 23, 3) := by decide +kernel
theorem dX8_buddle_5 : decode cX8_buddle 5 = .ok (.iload_n 1, 1) := by decide +kernel
theorem dX8_buddle_6 : decode cX8_buddle 6 = .ok (.iconst 0, 1) := by decide +kernel
theorem dX8_buddle_7 : decode cX8_buddle 7 = .ok (.iconst 2, 1) := by decide +kernel
theorem dX8_buddle_8 : decode cX8_buddle 8 = .ok (.invokestatic 27, 3) := by decide +kernel
theorem dX8_buddle_11 : decode cX8_buddle 11 = .ok (.ifCond .eq 21, 3) := by decide +kernel
theorem dX8_buddle_14 : decode cX8_buddle 14 = .ok (.iload_n 2, 1) := by decide +kernel
theorem dX8_buddle_15 : decode cX8_buddle 15 = .ok (.iconst 0, 1) := by decide +kernel
theorem dX8_buddle_16 : decode cX8_buddle 16 = .ok (.iconst 2, 1) := by decide +kernel
theorem dX8_buddle_17 : decode cX8_buddle 17 = .ok (.invokestatic 27, 3) := by decide +kernel
theorem dX8_buddle_20 : decode cX8_buddle 20 = .ok (.ifCond .eq 12, 3) := by decide +kernel
theorem dX8_buddle_23 : decode cX8_buddle 23 = .ok (.aload_n 0, 1) := by decide +kernel
theorem dX8_buddle_24 : decode cX8_buddle 24 = .ok (.iload_n 1, 1) := by decide +kernel
theorem dX8_buddle_25 : decode cX8_buddle 25 = .ok (.iload_n 2, 1) := by decide +kernel
theorem dX8_buddle_26 : decode cX8_buddle 26 = .ok (.invokevirtual 136, 3) := by decide +kernel
theorem dX8_buddle_29 : decode cX8_buddle 29 = .ok (.goto 8, 3) := by decide +kernel
theorem dX8_buddle_32 : decode cX8_buddle 32 = .ok (.aload_n 0, 1) := by decide +kernel
theorem dX8_buddle_33 : decode cX8_buddle 33 = .ok (.iconst 1, 1) := by decide +kernel
theorem dX8_buddle_34 : decode cX8_buddle 34 = .ok (.invokevirtual 31, 3) := by decide +kernel
theorem dX8_buddle_37 : decode cX8_buddle 37 = .ok (.ireturn, 1) := by decide +kernel
theorem dX8_headTin_0 : decode cX8_headTin 0 = .ok (.aload_n 0, 1) := by decide +kernel
theorem dX8_headTin_1 : decode cX8_headTin 1 = .ok (.getfield 10, 3) := by decide +kernel
theorem dX8_headTin_4 : decode cX8_headTin 4 = .ok (.getfield 129, 3) := by decide +kernel
theorem dX8_headTin_7 : decode cX8_headTin 7 = .ok (.iconst 2, 1) := by decide +kernel
theorem dX8_headTin_8 : decode cX8_headTin 8 = .ok (.iload_n 1, 1) := by decide +kernel
theorem dX8_headTin_9 : decode cX8_headTin 9 = .ok (.imul, 1) := by decide +kernel
theorem dX8_headTin_10 : decode cX8_headTin 10 = .ok (.iconst 1, 1) := by decide +kernel
theorem dX8_headTin_11 : decode cX8_headTin 11 = .ok (.iadd, 1) := by decide +kernel
theorem dX8_headTin_12 : decode cX8_headTin 12 = .ok (.iaload, 1) := by decide +kernel
theorem dX8_headTin_13 : decode cX8_headTin 13 = .ok (.bipush 100, 2) := by decide +kernel
theorem dX8_headTin_15 : decode cX8_headTin 15 = .ok (.iload_n 2, 1) := by decide +kernel
theorem dX8_headTin_16 : decode cX8_headTin 16 = .ok (.iconst 3, 1) := by decide +kernel
theorem dX8_headTin_17 : decode cX8_headTin 17 = .ok (.idiv, 1) := by decide +kernel
theorem dX8_headTin_18 : decode cX8_headTin 18 = .ok (.isub, 1) := by decide +kernel
theorem dX8_headTin_19 : decode cX8_headTin 19 = .ok (.imul, 1) := by decide +kernel
theorem dX8_headTin_20 : decode cX8_headTin 20 = .ok (.bipush 100, 2) := by decide +kernel
theorem dX8_headTin_22 : decode cX8_headTin 22 = .ok (.idiv, 1) := by decide +kernel
theorem dX8_headTin_23 : decode cX8_headTin 23 = .ok (.ireturn, 1) := by decide +kernel
theorem dX8_headRock_0 : decode cX8_headRock 0 = .ok (.aload_n 0, 1) := by decide +kernel
theorem dX8_headRock_1 : decode cX8_headRock 1 = .ok (.getfield 10, 3) := by decide +kernel
theorem dX8_headRock_4 : decode cX8_headRock 4 = .ok (.getfield 129, 3) := by decide +kernel
theorem dX8_headRock_7 : decode cX8_headRock 7 = .ok (.iconst 2, 1) := by decide +kernel
theorem dX8_headRock_8 : decode cX8_headRock 8 = .ok (.iload_n 1, 1) := by decide +kernel
theorem dX8_headRock_9 : decode cX8_headRock 9 = .ok (.imul, 1) := by decide +kernel
theorem dX8_headRock_10 : decode cX8_headRock 10 = .ok (.iaload, 1) := by decide +kernel
theorem dX8_headRock_11 : decode cX8_headRock 11 = .ok (.bipush 100, 2) := by decide +kernel
theorem dX8_headRock_13 : decode cX8_headRock 13 = .ok (.iload_n 2, 1) := by decide +kernel
theorem dX8_headRock_14 : decode cX8_headRock 14 = .ok (.isub, 1) := by decide +kernel
theorem dX8_headRock_15 : decode cX8_headRock 15 = .ok (.iconst 4, 1) := by decide +kernel
theorem dX8_headRock_16 : decode cX8_headRock 16 = .ok (.idiv, 1) := by decide +kernel
theorem dX8_headRock_17 : decode cX8_headRock 17 = .ok (.imul, 1) := by decide +kernel
theorem dX8_headRock_18 : decode cX8_headRock 18 = .ok (.bipush 100, 2) := by decide +kernel
theorem dX8_headRock_20 : decode cX8_headRock 20 = .ok (.idiv, 1) := by decide +kernel
theorem dX8_headRock_21 : decode cX8_headRock 21 = .ok (.ireturn, 1) := by decide +kernel
theorem dX8_wash_0 : decode cX8_wash 0 = .ok (.aload_n 0, 1) := by decide +kernel
theorem dX8_wash_1 : decode cX8_wash 1 = .ok (.iconst 0, 1) := by decide +kernel
theorem dX8_wash_2 : decode cX8_wash 2 = .ok (.putfield 23, 3) := by decide +kernel
theorem dX8_wash_5 : decode cX8_wash 5 = .ok (.iload_n 1, 1) := by decide +kernel
theorem dX8_wash_6 : decode cX8_wash 6 = .ok (.iconst 0, 1) := by decide +kernel
theorem dX8_wash_7 : decode cX8_wash 7 = .ok (.iconst 2, 1) := by decide +kernel
theorem dX8_wash_8 : decode cX8_wash 8 = .ok (.invokestatic 27, 3) := by decide +kernel
theorem dX8_wash_11 : decode cX8_wash 11 = .ok (.ifCond .ne 9, 3) := by decide +kernel
theorem dX8_wash_14 : decode cX8_wash 14 = .ok (.aload_n 0, 1) := by decide +kernel
theorem dX8_wash_15 : decode cX8_wash 15 = .ok (.iconst 1, 1) := by decide +kernel
theorem dX8_wash_16 : decode cX8_wash 16 = .ok (.invokevirtual 31, 3) := by decide +kernel
theorem dX8_wash_19 : decode cX8_wash 19 = .ok (.ireturn, 1) := by decide +kernel
theorem dX8_wash_20 : decode cX8_wash 20 = .ok (.iload_n 2, 1) := by decide +kernel
theorem dX8_wash_21 : decode cX8_wash 21 = .ok (.bipush 10, 2) := by decide +kernel
theorem dX8_wash_23 : decode cX8_wash 23 = .ok (.bipush 90, 2) := by decide +kernel
theorem dX8_wash_25 : decode cX8_wash 25 = .ok (.invokestatic 27, 3) := by decide +kernel
theorem dX8_wash_28 : decode cX8_wash 28 = .ok (.ifCond .ne 9, 3) := by decide +kernel
theorem dX8_wash_31 : decode cX8_wash 31 = .ok (.aload_n 0, 1) := by decide +kernel
theorem dX8_wash_32 : decode cX8_wash 32 = .ok (.iconst 2, 1) := by decide +kernel
theorem dX8_wash_33 : decode cX8_wash 33 = .ok (.invokevirtual 31, 3) := by decide +kernel
theorem dX8_wash_36 : decode cX8_wash 36 = .ok (.ireturn, 1) := by decide +kernel
theorem dX8_wash_37 : decode cX8_wash 37 = .ok (.aload_n 0, 1) := by decide +kernel
theorem dX8_wash_38 : decode cX8_wash 38 = .ok (.getfield 10, 3) := by decide +kernel
theorem dX8_wash_41 : decode cX8_wash 41 = .ok (.iload_n 1, 1) := by decide +kernel
theorem dX8_wash_42 : decode cX8_wash 42 = .ok (.invokevirtual 139, 3) := by decide +kernel
theorem dX8_wash_45 : decode cX8_wash 45 = .ok (.ifCond .eq 15, 3) := by decide +kernel
theorem dX8_wash_48 : decode cX8_wash 48 = .ok (.aload_n 0, 1) := by decide +kernel
theorem dX8_wash_49 : decode cX8_wash 49 = .ok (.getfield 10, 3) := by decide +kernel
theorem dX8_wash_52 : decode cX8_wash 52 = .ok (.getfield 79, 3) := by decide +kernel
theorem dX8_wash_55 : decode cX8_wash 55 = .ok (.bipush 30, 2) := by decide +kernel
theorem dX8_wash_57 : decode cX8_wash 57 = .ok (.if_icmp .ne 9, 3) := by decide +kernel
theorem dX8_wash_60 : decode cX8_wash 60 = .ok (.aload_n 0, 1) := by decide +kernel
theorem dX8_wash_61 : decode cX8_wash 61 = .ok (.iconst 3, 1) := by decide +kernel
theorem dX8_wash_62 : decode cX8_wash 62 = .ok (.invokevirtual 31, 3) := by decide +kernel
theorem dX8_wash_65 : decode cX8_wash 65 = .ok (.ireturn, 1) := by decide +kernel
theorem dX8_wash_66 : decode cX8_wash 66 = .ok (.aload_n 0, 1) := by decide +kernel
theorem dX8_wash_67 : decode cX8_wash 67 = .ok (.iload_n 1, 1) := by decide +kernel
theorem dX8_wash_68 : decode cX8_wash 68 = .ok (.iload_n 2, 1) := by decide +kernel
theorem dX8_wash_69 : decode cX8_wash 69 = .ok (.invokevirtual 142, 3) := by decide +kernel
theorem dX8_wash_72 : decode cX8_wash 72 = .ok (.istore_n 3, 1) := by decide +kernel
theorem dX8_wash_73 : decode cX8_wash 73 = .ok (.aload_n 0, 1) := by decide +kernel
theorem dX8_wash_74 : decode cX8_wash 74 = .ok (.iload_n 1, 1) := by decide +kernel
theorem dX8_wash_75 : decode cX8_wash 75 = .ok (.iload_n 2, 1) := by decide +kernel
theorem dX8_wash_76 : decode cX8_wash 76 = .ok (.invokevirtual 145, 3) := by decide +kernel
theorem dX8_wash_79 : decode cX8_wash 79 = .ok (.istore 4, 2) := by decide +kernel
theorem dX8_wash_81 : decode cX8_wash 81 = .ok (.aload_n 0, 1) := by decide +kernel
theorem dX8_wash_82 : decode cX8_wash 82 = .ok (.getfield 10, 3) := by decide +kernel
theorem dX8_wash_85 : decode cX8_wash 85 = .ok (.getfield 129, 3) := by decide +kernel
theorem dX8_wash_88 : decode cX8_wash 88 = .ok (.iconst 2, 1) := by decide +kernel
theorem dX8_wash_89 : decode cX8_wash 89 = .ok (.iload_n 1, 1) := by decide +kernel
theorem dX8_wash_90 : decode cX8_wash 90 = .ok (.imul, 1) := by decide +kernel
theorem dX8_wash_91 : decode cX8_wash 91 = .ok (.iconst 1, 1) := by decide +kernel
theorem dX8_wash_92 : decode cX8_wash 92 = .ok (.iadd, 1) := by decide +kernel
theorem dX8_wash_93 : decode cX8_wash 93 = .ok (.iaload, 1) := by decide +kernel
theorem dX8_wash_94 : decode cX8_wash 94 = .ok (.iload_n 3, 1) := by decide +kernel
theorem dX8_wash_95 : decode cX8_wash 95 = .ok (.isub, 1) := by decide +kernel
theorem dX8_wash_96 : decode cX8_wash 96 = .ok (.istore 5, 2) := by decide +kernel
theorem dX8_wash_98 : decode cX8_wash 98 = .ok (.aload_n 0, 1) := by decide +kernel
theorem dX8_wash_99 : decode cX8_wash 99 = .ok (.getfield 10, 3) := by decide +kernel
theorem dX8_wash_102 : decode cX8_wash 102 = .ok (.getfield 129, 3) := by decide +kernel
theorem dX8_wash_105 : decode cX8_wash 105 = .ok (.iconst 2, 1) := by decide +kernel
theorem dX8_wash_106 : decode cX8_wash 106 = .ok (.iload_n 1, 1) := by decide +kernel
theorem dX8_wash_107 : decode cX8_wash 107 = .ok (.imul, 1) := by decide +kernel
theorem dX8_wash_108 : decode cX8_wash 108 = .ok (.iaload, 1) := by decide +kernel
theorem dX8_wash_109 : decode cX8_wash 109 = .ok (.iload 4, 2) := by decide +kernel
theorem dX8_wash_111 : decode cX8_wash 111 = .ok (.isub, 1) := by decide +kernel
theorem dX8_wash_112 : decode cX8_wash 112 = .ok (.istore 6, 2) := by decide +kernel
theorem dX8_wash_114 : decode cX8_wash 114 = .ok (.iload 5, 2) := by decide +kernel
theorem dX8_wash_116 : decode cX8_wash 116 = .ok (.iconst 2, 1) := by decide +kernel
theorem dX8_wash_117 : decode cX8_wash 117 = .ok (.idiv, 1) := by decide +kernel
theorem dX8_wash_118 : decode cX8_wash 118 = .ok (.iload 6, 2) := by decide +kernel
theorem dX8_wash_120 : decode cX8_wash 120 = .ok (.iconst 2, 1) := by decide +kernel
theorem dX8_wash_121 : decode cX8_wash 121 = .ok (.idiv, 1) := by decide +kernel
theorem dX8_wash_122 : decode cX8_wash 122 = .ok (.iadd, 1) := by decide +kernel
theorem dX8_wash_123 : decode cX8_wash 123 = .ok (.ifCond .le 19, 3) := by decide +kernel
theorem dX8_wash_126 : decode cX8_wash 126 = .ok (.aload_n 0, 1) := by decide +kernel
theorem dX8_wash_127 : decode cX8_wash 127 = .ok (.getfield 10, 3) := by decide +kernel
theorem dX8_wash_130 : decode cX8_wash 130 = .ok (.iload 6, 2) := by decide +kernel
theorem dX8_wash_132 : decode cX8_wash 132 = .ok (.iconst 2, 1) := by decide +kernel
theorem dX8_wash_133 : decode cX8_wash 133 = .ok (.idiv, 1) := by decide +kernel
theorem dX8_wash_134 : decode cX8_wash 134 = .ok (.iload 5, 2) := by decide +kernel
theorem dX8_wash_136 : decode cX8_wash 136 = .ok (.iconst 2, 1) := by decide +kernel
theorem dX8_wash_137 : decode cX8_wash 137 = .ok (.idiv, 1) := by decide +kernel
theorem dX8_wash_138 : decode cX8_wash 138 = .ok (.iconst 1, 1) := by decide +kernel
theorem dX8_wash_139 : decode cX8_wash 139 = .ok (.invokevirtual 82, 3) := by decide +kernel
theorem dX8_wash_142 : decode cX8_wash 142 = .ok (.aload_n 0, 1) := by decide +kernel
theorem dX8_wash_143 : decode cX8_wash 143 = .ok (.dup, 1) := by decide +kernel
theorem dX8_wash_144 : decode cX8_wash 144 = .ok (.getfield 112, 3) := by decide +kernel
theorem dX8_wash_147 : decode cX8_wash 147 = .ok (.iload 5, 2) := by decide +kernel
theorem dX8_wash_149 : decode cX8_wash 149 = .ok (.iload 5, 2) := by decide +kernel
theorem dX8_wash_151 : decode cX8_wash 151 = .ok (.iconst 2, 1) := by decide +kernel
theorem dX8_wash_152 : decode cX8_wash 152 = .ok (.idiv, 1) := by decide +kernel
theorem dX8_wash_153 : decode cX8_wash 153 = .ok (.isub, 1) := by decide +kernel
theorem dX8_wash_154 : decode cX8_wash 154 = .ok (.iadd, 1) := by decide +kernel
theorem dX8_wash_155 : decode cX8_wash 155 = .ok (.putfield 112, 3) := by decide +kernel
theorem dX8_wash_158 : decode cX8_wash 158 = .ok (.aload_n 0, 1) := by decide +kernel
theorem dX8_wash_159 : decode cX8_wash 159 = .ok (.dup, 1) := by decide +kernel
theorem dX8_wash_160 : decode cX8_wash 160 = .ok (.getfield 115, 3) := by decide +kernel
theorem dX8_wash_163 : decode cX8_wash 163 = .ok (.iload 6, 2) := by decide +kernel
theorem dX8_wash_165 : decode cX8_wash 165 = .ok (.iload 6, 2) := by decide +kernel
theorem dX8_wash_167 : decode cX8_wash 167 = .ok (.iconst 2, 1) := by decide +kernel
theorem dX8_wash_168 : decode cX8_wash 168 = .ok (.idiv, 1) := by decide +kernel
theorem dX8_wash_169 : decode cX8_wash 169 = .ok (.isub, 1) := by decide +kernel
theorem dX8_wash_170 : decode cX8_wash 170 = .ok (.iadd, 1) := by decide +kernel
theorem dX8_wash_171 : decode cX8_wash 171 = .ok (.putfield 115, 3) := by decide +kernel
theorem dX8_wash_174 : decode cX8_wash 174 = .ok (.aload_n 0, 1) := by decide +kernel
theorem dX8_wash_175 : decode cX8_wash 175 = .ok (.getfield 19, 3) := by decide +kernel
theorem dX8_wash_178 : decode cX8_wash 178 = .ok (.iconst 0, 1) := by decide +kernel
theorem dX8_wash_179 : decode cX8_wash 179 = .ok (.dup2, 1) := by decide +kernel
theorem dX8_wash_180 : decode cX8_wash 180 = .ok (.iaload, 1) := by decide +kernel
theorem dX8_wash_181 : decode cX8_wash 181 = .ok (.iload 4, 2) := by decide +kernel
theorem dX8_wash_183 : decode cX8_wash 183 = .ok (.iadd, 1) := by decide +kernel
theorem dX8_wash_184 : decode cX8_wash 184 = .ok (.iastore, 1) := by decide +kernel
theorem dX8_wash_185 : decode cX8_wash 185 = .ok (.aload_n 0, 1) := by decide +kernel
theorem dX8_wash_186 : decode cX8_wash 186 = .ok (.getfield 19, 3) := by decide +kernel
theorem dX8_wash_189 : decode cX8_wash 189 = .ok (.iconst 1, 1) := by decide +kernel
theorem dX8_wash_190 : decode cX8_wash 190 = .ok (.dup2, 1) := by decide +kernel
theorem dX8_wash_191 : decode cX8_wash 191 = .ok (.iaload, 1) := by decide +kernel
theorem dX8_wash_192 : decode cX8_wash 192 = .ok (.iload_n 3, 1) := by decide +kernel
theorem dX8_wash_193 : decode cX8_wash 193 = .ok (.iadd, 1) := by decide +kernel
theorem dX8_wash_194 : decode cX8_wash 194 = .ok (.iastore, 1) := by decide +kernel
theorem dX8_wash_195 : decode cX8_wash 195 = .ok (.aload_n 0, 1) := by decide +kernel
theorem dX8_wash_196 : decode cX8_wash 196 = .ok (.getfield 10, 3) := by decide +kernel
theorem dX8_wash_199 : decode cX8_wash 199 = .ok (.getfield 129, 3) := by decide +kernel
theorem dX8_wash_202 : decode cX8_wash 202 = .ok (.iconst 2, 1) := by decide +kernel
theorem dX8_wash_203 : decode cX8_wash 203 = .ok (.iload_n 1, 1) := by decide +kernel
theorem dX8_wash_204 : decode cX8_wash 204 = .ok (.imul, 1) := by decide +kernel
theorem dX8_wash_205 : decode cX8_wash 205 = .ok (.iconst 0, 1) := by decide +kernel
theorem dX8_wash_206 : decode cX8_wash 206 = .ok (.iastore, 1) := by decide +kernel
theorem dX8_wash_207 : decode cX8_wash 207 = .ok (.aload_n 0, 1) := by decide +kernel
theorem dX8_wash_208 : decode cX8_wash 208 = .ok (.getfield 10, 3) := by decide +kernel
theorem dX8_wash_211 : decode cX8_wash 211 = .ok (.getfield 129, 3) := by decide +kernel
theorem dX8_wash_214 : decode cX8_wash 214 = .ok (.iconst 2, 1) := by decide +kernel
theorem dX8_wash_215 : decode cX8_wash 215 = .ok (.iload_n 1, 1) := by decide +kernel
theorem dX8_wash_216 : decode cX8_wash 216 = .ok (.imul, 1) := by decide +kernel
theorem dX8_wash_217 : decode cX8_wash 217 = .ok (.iconst 1, 1) := by decide +kernel
theorem dX8_wash_218 : decode cX8_wash 218 = .ok (.iadd, 1) := by decide +kernel
theorem dX8_wash_219 : decode cX8_wash 219 = .ok (.iconst 0, 1) := by decide +kernel
theorem dX8_wash_220 : decode cX8_wash 220 = .ok (.iastore, 1) := by decide +kernel
theorem dX8_wash_221 : decode cX8_wash 221 = .ok (.iload_n 3, 1) := by decide +kernel
theorem dX8_wash_222 : decode cX8_wash 222 = .ok (.ireturn, 1) := by decide +kernel
theorem dX8_again_0 : decode cX8_again 0 = .ok (.aload_n 0, 1) := by decide +kernel
theorem dX8_again_1 : decode cX8_again 1 = .ok (.iconst 0, 1) := by decide +kernel
theorem dX8_again_2 : decode cX8_again 2 = .ok (.putfield 23, 3) := by decide +kernel
theorem dX8_again_5 : decode cX8_again 5 = .ok (.iload_n 1, 1) := by decide +kernel
theorem dX8_again_6 : decode cX8_again 6 = .ok (.iconst 0, 1) := by decide +kernel
theorem dX8_again_7 : decode cX8_again 7 = .ok (.iconst 2, 1) := by decide +kernel
theorem dX8_again_8 : decode cX8_again 8 = .ok (.invokestatic 27, 3) := by decide +kernel
theorem dX8_again_11 : decode cX8_again 11 = .ok (.ifCond .ne 9, 3) := by decide +kernel
theorem dX8_again_14 : decode cX8_again 14 = .ok (.aload_n 0, 1) := by decide +kernel
theorem dX8_again_15 : decode cX8_again 15 = .ok (.iconst 1, 1) := by decide +kernel
theorem dX8_again_16 : decode cX8_again 16 = .ok (.invokevirtual 31, 3) := by decide +kernel
theorem dX8_again_19 : decode cX8_again 19 = .ok (.ireturn, 1) := by decide +kernel
theorem dX8_again_20 : decode cX8_again 20 = .ok (.aload_n 0, 1) := by decide +kernel
theorem dX8_again_21 : decode cX8_again 21 = .ok (.getfield 19, 3) := by decide +kernel
theorem dX8_again_24 : decode cX8_again 24 = .ok (.iconst 0, 1) := by decide +kernel
theorem dX8_again_25 : decode cX8_again 25 = .ok (.iaload, 1) := by decide +kernel
theorem dX8_again_26 : decode cX8_again 26 = .ok (.aload_n 0, 1) := by decide +kernel
theorem dX8_again_27 : decode cX8_again 27 = .ok (.getfield 19, 3) := by decide +kernel
theorem dX8_again_30 : decode cX8_again 30 = .ok (.iconst 1, 1) := by decide +kernel
theorem dX8_again_31 : decode cX8_again 31 = .ok (.iaload, 1) := by decide +kernel
theorem dX8_again_32 : decode cX8_again 32 = .ok (.iadd, 1) := by decide +kernel
theorem dX8_again_33 : decode cX8_again 33 = .ok (.sipush 6000, 3) := by decide +kernel
theorem dX8_again_36 : decode cX8_again 36 = .ok (.aload_n 0, 1) := by decide +kernel
theorem dX8_again_37 : decode cX8_again 37 = .ok (.getfield 10, 3) := by decide +kernel
theorem dX8_again_40 : decode cX8_again 40 = .ok (.iload_n 1, 1) := by decide +kernel
theorem dX8_again_41 : decode cX8_again 41 = .ok (.invokevirtual 139, 3) := by decide +kernel
theorem dX8_again_44 : decode cX8_again 44 = .ok (.isub, 1) := by decide +kernel
theorem dX8_again_45 : decode cX8_again 45 = .ok (.invokestatic 148, 3) := by decide +kernel
theorem dX8_again_48 : decode cX8_again 48 = .ok (.istore_n 2, 1) := by decide +kernel
theorem dX8_again_49 : decode cX8_again 49 = .ok (.aload_n 0, 1) := by decide +kernel
theorem dX8_again_50 : decode cX8_again 50 = .ok (.getfield 19, 3) := by decide +kernel
theorem dX8_again_53 : decode cX8_again 53 = .ok (.iconst 0, 1) := by decide +kernel
theorem dX8_again_54 : decode cX8_again 54 = .ok (.aload_n 0, 1) := by decide +kernel
theorem dX8_again_55 : decode cX8_again 55 = .ok (.getfield 10, 3) := by decide +kernel
theorem dX8_again_58 : decode cX8_again 58 = .ok (.getfield 129, 3) := by decide +kernel
theorem dX8_again_61 : decode cX8_again 61 = .ok (.iconst 2, 1) := by decide +kernel
theorem dX8_again_62 : decode cX8_again 62 = .ok (.iload_n 1, 1) := by decide +kernel
theorem dX8_again_63 : decode cX8_again 63 = .ok (.imul, 1) := by decide +kernel
theorem dX8_again_64 : decode cX8_again 64 = .ok (.iload_n 2, 1) := by decide +kernel
theorem dX8_again_65 : decode cX8_again 65 = .ok (.invokestatic 153, 3) := by decide +kernel
theorem dX8_again_68 : decode cX8_again 68 = .ok (.iload_n 2, 1) := by decide +kernel
theorem dX8_again_69 : decode cX8_again 69 = .ok (.ireturn, 1) := by decide +kernel
theorem dX8_smelt_0 : decode cX8_smelt 0 = .ok (.aload_n 0, 1) := by decide +kernel
theorem dX8_smelt_1 : decode cX8_smelt 1 = .ok (.iconst 0, 1) := by decide +kernel
theorem dX8_smelt_2 : decode cX8_smelt 2 = .ok (.putfield 23, 3) := by decide +kernel
theorem dX8_smelt_5 : decode cX8_smelt 5 = .ok (.iload_n 1, 1) := by decide +kernel
theorem dX8_smelt_6 : decode cX8_smelt 6 = .ok (.iconst 1, 1) := by decide +kernel
theorem dX8_smelt_7 : decode cX8_smelt 7 = .ok (.if_icmp .ge 9, 3) := by decide +kernel
theorem dX8_smelt_10 : decode cX8_smelt 10 = .ok (.aload_n 0, 1) := by decide +kernel
theorem dX8_smelt_11 : decode cX8_smelt 11 = .ok (.iconst 1, 1) := by decide +kernel
theorem dX8_smelt_12 : decode cX8_smelt 12 = .ok (.invokevirtual 31, 3) := by decide +kernel
theorem dX8_smelt_15 : decode cX8_smelt 15 = .ok (.ireturn, 1) := by decide +kernel
theorem dX8_smelt_16 : decode cX8_smelt 16 = .ok (.iload_n 1, 1) := by decide +kernel
theorem dX8_smelt_17 : decode cX8_smelt 17 = .ok (.aload_n 0, 1) := by decide +kernel
theorem dX8_smelt_18 : decode cX8_smelt 18 = .ok (.getfield 19, 3) := by decide +kernel
theorem dX8_smelt_21 : decode cX8_smelt 21 = .ok (.iconst 0, 1) := by decide +kernel
theorem dX8_smelt_22 : decode cX8_smelt 22 = .ok (.iaload, 1) := by decide +kernel
theorem dX8_smelt_23 : decode cX8_smelt 23 = .ok (.aload_n 0, 1) := by decide +kernel
theorem dX8_smelt_24 : decode cX8_smelt 24 = .ok (.getfield 19, 3) := by decide +kernel
theorem dX8_smelt_27 : decode cX8_smelt 27 = .ok (.iconst 1, 1) := by decide +kernel
theorem dX8_smelt_28 : decode cX8_smelt 28 = .ok (.iaload, 1) := by decide +kernel
theorem dX8_smelt_29 : decode cX8_smelt 29 = .ok (.iadd, 1) := by decide +kernel
theorem dX8_smelt_30 : decode cX8_smelt 30 = .ok (.if_icmp .le 9, 3) := by decide +kernel
theorem dX8_smelt_33 : decode cX8_smelt 33 = .ok (.aload_n 0, 1) := by decide +kernel
theorem dX8_smelt_34 : decode cX8_smelt 34 = .ok (.iconst 2, 1) := by decide +kernel
theorem dX8_smelt_35 : decode cX8_smelt 35 = .ok (.invokevirtual 31, 3) := by decide +kernel
theorem dX8_smelt_38 : decode cX8_smelt 38 = .ok (.ireturn, 1) := by decide +kernel
theorem dX8_smelt_39 : decode cX8_smelt 39 = .ok (.iconst 2, 1) := by decide +kernel
theorem dX8_smelt_40 : decode cX8_smelt 40 = .ok (.newarray .int, 2) := by decide +kernel
theorem dX8_smelt_42 : decode cX8_smelt 42 = .ok (.astore_n 2, 1) := by decide +kernel
theorem dX8_smelt_43 : decode cX8_smelt 43 = .ok (.aload_n 0, 1) := by decide +kernel
theorem dX8_smelt_44 : decode cX8_smelt 44 = .ok (.getfield 19, 3) := by decide +kernel
theorem dX8_smelt_47 : decode cX8_smelt 47 = .ok (.iconst 0, 1) := by decide +kernel
theorem dX8_smelt_48 : decode cX8_smelt 48 = .ok (.aload_n 2, 1) := by decide +kernel
theorem dX8_smelt_49 : decode cX8_smelt 49 = .ok (.iconst 0, 1) := by decide +kernel
theorem dX8_smelt_50 : decode cX8_smelt 50 = .ok (.iload_n 1, 1) := by decide +kernel
theorem dX8_smelt_51 : decode cX8_smelt 51 = .ok (.invokestatic 153, 3) := by decide +kernel
theorem dX8_smelt_54 : decode cX8_smelt 54 = .ok (.aload_n 2, 1) := by decide +kernel
theorem dX8_smelt_55 : decode cX8_smelt 55 = .ok (.iconst 0, 1) := by decide +kernel
theorem dX8_smelt_56 : decode cX8_smelt 56 = .ok (.iaload, 1) := by decide +kernel
theorem dX8_smelt_57 : decode cX8_smelt 57 = .ok (.i2l, 1) := by decide +kernel
theorem dX8_smelt_58 : decode cX8_smelt 58 = .ok (.aload_n 2, 1) := by decide +kernel
theorem dX8_smelt_59 : decode cX8_smelt 59 = .ok (.iconst 1, 1) := by decide +kernel
theorem dX8_smelt_60 : decode cX8_smelt 60 = .ok (.iaload, 1) := by decide +kernel
theorem dX8_smelt_61 : decode cX8_smelt 61 = .ok (.i2l, 1) := by decide +kernel
theorem dX8_smelt_62 : decode cX8_smelt 62 = .ok (.invokestatic 132, 3) := by decide +kernel
theorem dX8_smelt_65 : decode cX8_smelt 65 = .ok (.sipush 400, 3) := by decide +kernel
theorem dX8_smelt_68 : decode cX8_smelt 68 = .ok (.if_icmp .lt 15, 3) := by decide +kernel
theorem dX8_smelt_71 : decode cX8_smelt 71 = .ok (.aload_n 2, 1) := by decide +kernel
theorem dX8_smelt_72 : decode cX8_smelt 72 = .ok (.iconst 1, 1) := by decide +kernel
theorem dX8_smelt_73 : decode cX8_smelt 73 = .ok (.iaload, 1) := by decide +kernel
theorem dX8_smelt_74 : decode cX8_smelt 74 = .ok (.bipush 9, 2) := by decide +kernel
theorem dX8_smelt_76 : decode cX8_smelt 76 = .ok (.imul, 1) := by decide +kernel
theorem dX8_smelt_77 : decode cX8_smelt 77 = .ok (.bipush 10, 2) := by decide +kernel
theorem dX8_smelt_79 : decode cX8_smelt 79 = .ok (.idiv, 1) := by decide +kernel
theorem dX8_smelt_80 : decode cX8_smelt 80 = .ok (.goto 4, 3) := by decide +kernel
theorem dX8_smelt_83 : decode cX8_smelt 83 = .ok (.iconst 0, 1) := by decide +kernel
theorem dX8_smelt_84 : decode cX8_smelt 84 = .ok (.istore_n 3, 1) := by decide +kernel
theorem dX8_smelt_85 : decode cX8_smelt 85 = .ok (.aload_n 0, 1) := by decide +kernel
theorem dX8_smelt_86 : decode cX8_smelt 86 = .ok (.dup, 1) := by decide +kernel
theorem dX8_smelt_87 : decode cX8_smelt 87 = .ok (.getfield 118, 3) := by decide +kernel
theorem dX8_smelt_90 : decode cX8_smelt 90 = .ok (.iload_n 3, 1) := by decide +kernel
theorem dX8_smelt_91 : decode cX8_smelt 91 = .ok (.iadd, 1) := by decide +kernel
theorem dX8_smelt_92 : decode cX8_smelt 92 = .ok (.putfield 118, 3) := by decide +kernel
theorem dX8_smelt_95 : decode cX8_smelt 95 = .ok (.iload_n 3, 1) := by decide +kernel
theorem dX8_smelt_96 : decode cX8_smelt 96 = .ok (.ireturn, 1) := by decide +kernel
theorem dX8_foresee_0 : decode cX8_foresee 0 = .ok (.aload_n 0, 1) := by decide +kernel
theorem dX8_foresee_1 : decode cX8_foresee 1 = .ok (.iconst 0, 1) := by decide +kernel
theorem dX8_foresee_2 : decode cX8_foresee 2 = .ok (.putfield 23, 3) := by decide +kernel
theorem dX8_foresee_5 : decode cX8_foresee 5 = .ok (.iload_n 1, 1) := by decide +kernel
theorem dX8_foresee_6 : decode cX8_foresee 6 = .ok (.iconst 1, 1) := by decide +kernel
theorem dX8_foresee_7 : decode cX8_foresee 7 = .ok (.bipush 100, 2) := by decide +kernel
theorem dX8_foresee_9 : decode cX8_foresee 9 = .ok (.invokestatic 27, 3) := by decide +kernel
theorem dX8_foresee_12 : decode cX8_foresee 12 = .ok (.ifCond .ne 9, 3) := by decide +kernel
theorem dX8_foresee_15 : decode cX8_foresee 15 = .ok (.aload_n 0, 1) := by decide +kernel
theorem dX8_foresee_16 : decode cX8_foresee 16 = .ok (.iconst 1, 1) := by decide +kernel
theorem dX8_foresee_17 : decode cX8_foresee 17 = .ok (.invokevirtual 31, 3) := by decide +kernel
theorem dX8_foresee_20 : decode cX8_foresee 20 = .ok (.ireturn, 1) := by decide +kernel
theorem dX8_foresee_21 : decode cX8_foresee 21 = .ok (.iload_n 2, 1) := by decide +kernel
theorem dX8_foresee_22 : decode cX8_foresee 22 = .ok (.iconst 0, 1) := by decide +kernel
theorem dX8_foresee_23 : decode cX8_foresee 23 = .ok (.iconst 4, 1) := by decide +kernel
theorem dX8_foresee_24 : decode cX8_foresee 24 = .ok (.invokestatic 27, 3) := by decide +kernel
theorem dX8_foresee_27 : decode cX8_foresee 27 = .ok (.ifCond .ne 9, 3) := by decide +kernel
theorem dX8_foresee_30 : decode cX8_foresee 30 = .ok (.aload_n 0, 1) := by decide +kernel
theorem dX8_foresee_31 : decode cX8_foresee 31 = .ok (.iconst 2, 1) := by decide +kernel
theorem dX8_foresee_32 : decode cX8_foresee 32 = .ok (.invokevirtual 31, 3) := by decide +kernel
theorem dX8_foresee_35 : decode cX8_foresee 35 = .ok (.ireturn, 1) := by decide +kernel
theorem dX8_foresee_36 : decode cX8_foresee 36 = .ok (.aload_n 0, 1) := by decide +kernel
theorem dX8_foresee_37 : decode cX8_foresee 37 = .ok (.getfield 10, 3) := by decide +kernel
theorem dX8_foresee_40 : decode cX8_foresee 40 = .ok (.getfield 93, 3) := by decide +kernel
theorem dX8_foresee_43 : decode cX8_foresee 43 = .ok (.iload_n 1, 1) := by decide +kernel
theorem dX8_foresee_44 : decode cX8_foresee 44 = .ok (.iadd, 1) := by decide +kernel
theorem dX8_foresee_45 : decode cX8_foresee 45 = .ok (.sipush 5000, 3) := by decide +kernel
theorem dX8_foresee_48 : decode cX8_foresee 48 = .ok (.if_icmp .le 9, 3) := by decide +kernel
theorem dX8_foresee_51 : decode cX8_foresee 51 = .ok (.aload_n 0, 1) := by decide +kernel
theorem dX8_foresee_52 : decode cX8_foresee 52 = .ok (.iconst 3, 1) := by decide +kernel
theorem dX8_foresee_53 : decode cX8_foresee 53 = .ok (.invokevirtual 31, 3) := by decide +kernel
theorem dX8_foresee_56 : decode cX8_foresee 56 = .ok (.ireturn, 1) := by decide +kernel
theorem dX8_foresee_57 : decode cX8_foresee 57 = .ok (.aload_n 0, 1) := by decide +kernel
theorem dX8_foresee_58 : decode cX8_foresee 58 = .ok (.getfield 16, 3) := by decide +kernel
theorem dX8_foresee_61 : decode cX8_foresee 61 = .ok (.aload_n 0, 1) := by decide +kernel
theorem dX8_foresee_62 : decode cX8_foresee 62 = .ok (.getfield 10, 3) := by decide +kernel
theorem dX8_foresee_65 : decode cX8_foresee 65 = .ok (.invokevirtual 157, 3) := by decide +kernel
theorem dX8_foresee_68 : decode cX8_foresee 68 = .ok (.aload_n 0, 1) := by decide +kernel
theorem dX8_foresee_69 : decode cX8_foresee 69 = .ok (.getfield 16, 3) := by decide +kernel
theorem dX8_foresee_72 : decode cX8_foresee 72 = .ok (.iload_n 1, 1) := by decide +kernel
theorem dX8_foresee_73 : decode cX8_foresee 73 = .ok (.invokestatic 96, 3) := by decide +kernel
theorem dX8_foresee_76 : decode cX8_foresee 76 = .ok (.istore_n 3, 1) := by decide +kernel
theorem dX8_foresee_77 : decode cX8_foresee 77 = .ok (.iload_n 2, 1) := by decide +kernel
theorem dX8_foresee_78 : decode cX8_foresee 78 = .ok (.ifCond .ne 7, 3) := by decide +kernel
theorem dX8_foresee_81 : decode cX8_foresee 81 = .ok (.iload_n 3, 1) := by decide +kernel
theorem dX8_foresee_82 : decode cX8_foresee 82 = .ok (.goto 63, 3) := by decide +kernel
theorem dX8_foresee_85 : decode cX8_foresee 85 = .ok (.iload_n 2, 1) := by decide +kernel
theorem dX8_foresee_86 : decode cX8_foresee 86 = .ok (.iconst 1, 1) := by decide +kernel
theorem dX8_foresee_87 : decode cX8_foresee 87 = .ok (.if_icmp .ne 13, 3) := by decide +kernel
theorem dX8_foresee_90 : decode cX8_foresee 90 = .ok (.aload_n 0, 1) := by decide +kernel
theorem dX8_foresee_91 : decode cX8_foresee 91 = .ok (.getfield 16, 3) := by decide +kernel
theorem dX8_foresee_94 : decode cX8_foresee 94 = .ok (.getfield 100, 3) := by decide +kernel
theorem dX8_foresee_97 : decode cX8_foresee 97 = .ok (.goto 48, 3) := by decide +kernel
theorem dX8_foresee_100 : decode cX8_foresee 100 = .ok (.iload_n 2, 1) := by decide +kernel
theorem dX8_foresee_101 : decode cX8_foresee 101 = .ok (.iconst 2, 1) := by decide +kernel
theorem dX8_foresee_102 : decode cX8_foresee 102 = .ok (.if_icmp .ne 13, 3) := by decide +kernel
theorem dX8_foresee_105 : decode cX8_foresee 105 = .ok (.aload_n 0, 1) := by decide +kernel
theorem dX8_foresee_106 : decode cX8_foresee 106 = .ok (.getfield 16, 3) := by decide +kernel
theorem dX8_foresee_109 : decode cX8_foresee 109 = .ok (.invokevirtual 161, 3) := by decide +kernel
theorem dX8_foresee_112 : decode cX8_foresee 112 = .ok (.goto 33, 3) := by decide +kernel
theorem dX8_foresee_115 : decode cX8_foresee 115 = .ok (.iload_n 2, 1) := by decide +kernel
theorem dX8_foresee_116 : decode cX8_foresee 116 = .ok (.iconst 3, 1) := by decide +kernel
theorem dX8_foresee_117 : decode cX8_foresee 117 = .ok (.if_icmp .ne 21, 3) := by decide +kernel
theorem dX8_foresee_120 : decode cX8_foresee 120 = .ok (.aload_n 0, 1) := by decide +kernel
theorem dX8_foresee_121 : decode cX8_foresee 121 = .ok (.getfield 16, 3) := by decide +kernel
theorem dX8_foresee_124 : decode cX8_foresee 124 = .ok (.getfield 109, 3) := by decide +kernel
theorem dX8_foresee_127 : decode cX8_foresee 127 = .ok (.aload_n 0, 1) := by decide +kernel
theorem dX8_foresee_128 : decode cX8_foresee 128 = .ok (.getfield 10, 3) := by decide +kernel
theorem dX8_foresee_131 : decode cX8_foresee 131 = .ok (.getfield 109, 3) := by decide +kernel
theorem dX8_foresee_134 : decode cX8_foresee 134 = .ok (.isub, 1) := by decide +kernel
theorem dX8_foresee_135 : decode cX8_foresee 135 = .ok (.goto 10, 3) := by decide +kernel
theorem dX8_foresee_138 : decode cX8_foresee 138 = .ok (.aload_n 0, 1) := by decide +kernel
theorem dX8_foresee_139 : decode cX8_foresee 139 = .ok (.getfield 16, 3) := by decide +kernel
theorem dX8_foresee_142 : decode cX8_foresee 142 = .ok (.invokevirtual 103, 3) := by decide +kernel
theorem dX8_foresee_145 : decode cX8_foresee 145 = .ok (.ireturn, 1) := by decide +kernel
theorem dX8_advise_0 : decode cX8_advise 0 = .ok (.aload_n 0, 1) := by decide +kernel
theorem dX8_advise_1 : decode cX8_advise 1 = .ok (.iconst 0, 1) := by decide +kernel
theorem dX8_advise_2 : decode cX8_advise 2 = .ok (.putfield 23, 3) := by decide +kernel
theorem dX8_advise_5 : decode cX8_advise 5 = .ok (.iload_n 1, 1) := by decide +kernel
theorem dX8_advise_6 : decode cX8_advise 6 = .ok (.iconst 1, 1) := by decide +kernel
theorem dX8_advise_7 : decode cX8_advise 7 = .ok (.bipush 48, 2) := by decide +kernel
theorem dX8_advise_9 : decode cX8_advise 9 = .ok (.invokestatic 27, 3) := by decide +kernel
theorem dX8_advise_12 : decode cX8_advise 12 = .ok (.ifCond .ne 9, 3) := by decide +kernel
theorem dX8_advise_15 : decode cX8_advise 15 = .ok (.aload_n 0, 1) := by decide +kernel
theorem dX8_advise_16 : decode cX8_advise 16 = .ok (.iconst 1, 1) := by decide +kernel
theorem dX8_advise_17 : decode cX8_advise 17 = .ok (.invokevirtual 31, 3) := by decide +kernel
theorem dX8_advise_20 : decode cX8_advise 20 = .ok (.ireturn, 1) := by decide +kernel
theorem dX8_advise_21 : decode cX8_advise 21 = .ok (.aload_n 0, 1) := by decide +kernel
theorem dX8_advise_22 : decode cX8_advise 22 = .ok (.getfield 10, 3) := by decide +kernel
theorem dX8_advise_25 : decode cX8_advise 25 = .ok (.getfield 93, 3) := by decide +kernel
theorem dX8_advise_28 : decode cX8_advise 28 = .ok (.iload_n 1, 1) := by decide +kernel
theorem dX8_advise_29 : decode cX8_advise 29 = .ok (.iadd, 1) := by decide +kernel
theorem dX8_advise_30 : decode cX8_advise 30 = .ok (.sipush 5000, 3) := by decide +kernel
theorem dX8_advise_33 : decode cX8_advise 33 = .ok (.if_icmp .le 9, 3) := by decide +kernel
theorem dX8_advise_36 : decode cX8_advise 36 = .ok (.aload_n 0, 1) := by decide +kernel
theorem dX8_advise_37 : decode cX8_advise 37 = .ok (.iconst 2, 1) := by decide +kernel
theorem dX8_advise_38 : decode cX8_advise 38 = .ok (.invokevirtual 31, 3) := by decide +kernel
theorem dX8_advise_41 : decode cX8_advise 41 = .ok (.ireturn, 1) := by decide +kernel
theorem dX8_advise_42 : decode cX8_advise 42 = .ok (.iconst 0, 1) := by decide +kernel
theorem dX8_advise_43 : decode cX8_advise 43 = .ok (.istore_n 2, 1) := by decide +kernel
theorem dX8_advise_44 : decode cX8_advise 44 = .ok (.iconst (-1), 1) := by decide +kernel
theorem dX8_advise_45 : decode cX8_advise 45 = .ok (.istore_n 3, 1) := by decide +kernel
theorem dX8_advise_46 : decode cX8_advise 46 = .ok (.iconst 0, 1) := by decide +kernel
theorem dX8_advise_47 : decode cX8_advise 47 = .ok (.istore 4, 2) := by decide +kernel
theorem dX8_advise_49 : decode cX8_advise 49 = .ok (.iload 4, 2) := by decide +kernel
theorem dX8_advise_51 : decode cX8_advise 51 = .ok (.bipush 21, 2) := by decide +kernel
theorem dX8_advise_53 : decode cX8_advise 53 = .ok (.if_icmp .ge 63, 3) := by decide +kernel
theorem dX8_advise_56 : decode cX8_advise 56 = .ok (.aload_n 0, 1) := by decide +kernel
theorem dX8_advise_57 : decode cX8_advise 57 = .ok (.getfield 16, 3) := by decide +kernel
theorem dX8_advise_60 : decode cX8_advise 60 = .ok (.aload_n 0, 1) := by decide +kernel
theorem dX8_advise_61 : decode cX8_advise 61 = .ok (.getfield 10, 3) := by decide +kernel
theorem dX8_advise_64 : decode cX8_advise 64 = .ok (.invokevirtual 157, 3) := by decide +kernel
theorem dX8_advise_67 : decode cX8_advise 67 = .ok (.aload_n 0, 1) := by decide +kernel
theorem dX8_advise_68 : decode cX8_advise 68 = .ok (.getfield 16, 3) := by decide +kernel
theorem dX8_advise_71 : decode cX8_advise 71 = .ok (.iload 4, 2) := by decide +kernel
theorem dX8_advise_73 : decode cX8_advise 73 = .ok (.putfield 38, 3) := by decide +kernel
theorem dX8_advise_76 : decode cX8_advise 76 = .ok (.aload_n 0, 1) := by decide +kernel
theorem dX8_advise_77 : decode cX8_advise 77 = .ok (.getfield 16, 3) := by decide +kernel
theorem dX8_advise_80 : decode cX8_advise 80 = .ok (.iload_n 1, 1) := by decide +kernel
theorem dX8_advise_81 : decode cX8_advise 81 = .ok (.invokestatic 96, 3) := by decide +kernel
theorem dX8_advise_84 : decode cX8_advise 84 = .ok (.pop, 1) := by decide +kernel
theorem dX8_advise_85 : decode cX8_advise 85 = .ok (.aload_n 0, 1) := by decide +kernel
theorem dX8_advise_86 : decode cX8_advise 86 = .ok (.getfield 16, 3) := by decide +kernel
theorem dX8_advise_89 : decode cX8_advise 89 = .ok (.invokevirtual 161, 3) := by decide +kernel
theorem dX8_advise_92 : decode cX8_advise 92 = .ok (.iload_n 3, 1) := by decide +kernel
theorem dX8_advise_93 : decode cX8_advise 93 = .ok (.if_icmp .gt 6, 3) := by decide +kernel
theorem dX8_advise_96 : decode cX8_advise 96 = .ok (.goto 14, 3) := by decide +kernel
theorem dX8_advise_99 : decode cX8_advise 99 = .ok (.aload_n 0, 1) := by decide +kernel
theorem dX8_advise_100 : decode cX8_advise 100 = .ok (.getfield 16, 3) := by decide +kernel
theorem dX8_advise_103 : decode cX8_advise 103 = .ok (.invokevirtual 161, 3) := by decide +kernel
theorem dX8_advise_106 : decode cX8_advise 106 = .ok (.istore_n 3, 1) := by decide +kernel
theorem dX8_advise_107 : decode cX8_advise 107 = .ok (.iload 4, 2) := by decide +kernel
theorem dX8_advise_109 : decode cX8_advise 109 = .ok (.istore_n 2, 1) := by decide +kernel
theorem dX8_advise_110 : decode cX8_advise 110 = .ok (.iinc 4 1, 3) := by decide +kernel
theorem dX8_advise_113 : decode cX8_advise 113 = .ok (.goto (-64), 3) := by decide +kernel
theorem dX8_advise_116 : decode cX8_advise 116 = .ok (.iload_n 2, 1) := by decide +kernel
theorem dX8_advise_117 : decode cX8_advise 117 = .ok (.ireturn, 1) := by decide +kernel
theorem dX8_bestWater_0 : decode cX8_bestWater 0 = .ok (.aload_n 0, 1) := by decide +kernel
theorem dX8_bestWater_1 : decode cX8_bestWater 1 = .ok (.iconst 0, 1) := by decide +kernel
theorem dX8_bestWater_2 : decode cX8_bestWater 2 = .ok (.putfield 23, 3) := by decide +kernel
theorem dX8_bestWater_5 : decode cX8_bestWater 5 = .ok (.iload_n 1, 1) := by decide +kernel
theorem dX8_bestWater_6 : decode cX8_bestWater 6 = .ok (.iconst 0, 1) := by decide +kernel
theorem dX8_bestWater_7 : decode cX8_bestWater 7 = .ok (.iconst 2, 1) := by decide +kernel
theorem dX8_bestWater_8 : decode cX8_bestWater 8 = .ok (.invokestatic 27, 3) := by decide +kernel
theorem dX8_bestWater_11 : decode cX8_bestWater 11 = .ok (.ifCond .ne 9, 3) := by decide +kernel
theorem dX8_bestWater_14 : decode cX8_bestWater 14 = .ok (.aload_n 0, 1) := by decide +kernel
theorem dX8_bestWater_15 : decode cX8_bestWater 15 = .ok (.iconst 1, 1) := by decide +kernel
theorem dX8_bestWater_16 : decode cX8_bestWater 16 = .ok (.invokevirtual 31, 3) := by decide +kernel
theorem dX8_bestWater_19 : decode cX8_bestWater 19 = .ok (.ireturn, 1) := by decide +kernel
theorem dX8_bestWater_20 : decode cX8_bestWater 20 = .ok (.iload_n 2, 1) := by decide +kernel
theorem dX8_bestWater_21 : decode cX8_bestWater 21 = .ok (.ifCond .ge 9, 3) := by decide +kernel
theorem dX8_bestWater_24 : decode cX8_bestWater 24 = .ok (.aload_n 0, 1) := by decide +kernel
theorem dX8_bestWater_25 : decode cX8_bestWater 25 = .ok (.iconst 2, 1) := by decide +kernel
theorem dX8_bestWater_26 : decode cX8_bestWater 26 = .ok (.invokevirtual 31, 3) := by decide +kernel
theorem dX8_bestWater_29 : decode cX8_bestWater 29 = .ok (.ireturn, 1) := by decide +kernel
theorem dX8_bestWater_30 : decode cX8_bestWater 30 = .ok (.iconst (-1), 1) := by decide +kernel
theorem dX8_bestWater_31 : decode cX8_bestWater 31 = .ok (.istore_n 3, 1) := by decide +kernel
theorem dX8_bestWater_32 : decode cX8_bestWater 32 = .ok (.iconst (-1), 1) := by decide +kernel
theorem dX8_bestWater_33 : decode cX8_bestWater 33 = .ok (.istore 4, 2) := by decide +kernel
theorem dX8_bestWater_35 : decode cX8_bestWater 35 = .ok (.bipush 10, 2) := by decide +kernel
theorem dX8_bestWater_37 : decode cX8_bestWater 37 = .ok (.istore 5, 2) := by decide +kernel
theorem dX8_bestWater_39 : decode cX8_bestWater 39 = .ok (.iload 5, 2) := by decide +kernel
theorem dX8_bestWater_41 : decode cX8_bestWater 41 = .ok (.bipush 91, 2) := by decide +kernel
theorem dX8_bestWater_43 : decode cX8_bestWater 43 = .ok (.if_icmp .ge 69, 3) := by decide +kernel
theorem dX8_bestWater_46 : decode cX8_bestWater 46 = .ok (.aload_n 0, 1) := by decide +kernel
theorem dX8_bestWater_47 : decode cX8_bestWater 47 = .ok (.getfield 10, 3) := by decide +kernel
theorem dX8_bestWater_50 : decode cX8_bestWater 50 = .ok (.iload_n 1, 1) := by decide +kernel
theorem dX8_bestWater_51 : decode cX8_bestWater 51 = .ok (.invokevirtual 139, 3) := by decide +kernel
theorem dX8_bestWater_54 : decode cX8_bestWater 54 = .ok (.ifCond .le 58, 3) := by decide +kernel
theorem dX8_bestWater_57 : decode cX8_bestWater 57 = .ok (.aload_n 0, 1) := by decide +kernel
theorem dX8_bestWater_58 : decode cX8_bestWater 58 = .ok (.iload_n 1, 1) := by decide +kernel
theorem dX8_bestWater_59 : decode cX8_bestWater 59 = .ok (.iload 5, 2) := by decide +kernel
theorem dX8_bestWater_61 : decode cX8_bestWater 61 = .ok (.invokevirtual 145, 3) := by decide +kernel
theorem dX8_bestWater_64 : decode cX8_bestWater 64 = .ok (.i2l, 1) := by decide +kernel
theorem dX8_bestWater_65 : decode cX8_bestWater 65 = .ok (.aload_n 0, 1) := by decide +kernel
theorem dX8_bestWater_66 : decode cX8_bestWater 66 = .ok (.iload_n 1, 1) := by decide +kernel
theorem dX8_bestWater_67 : decode cX8_bestWater 67 = .ok (.iload 5, 2) := by decide +kernel
theorem dX8_bestWater_69 : decode cX8_bestWater 69 = .ok (.invokevirtual 142, 3) := by decide +kernel
theorem dX8_bestWater_72 : decode cX8_bestWater 72 = .ok (.i2l, 1) := by decide +kernel
theorem dX8_bestWater_73 : decode cX8_bestWater 73 = .ok (.invokestatic 132, 3) := by decide +kernel
theorem dX8_bestWater_76 : decode cX8_bestWater 76 = .ok (.istore 6, 2) := by decide +kernel
theorem dX8_bestWater_78 : decode cX8_bestWater 78 = .ok (.aload_n 0, 1) := by decide +kernel
theorem dX8_bestWater_79 : decode cX8_bestWater 79 = .ok (.iload_n 1, 1) := by decide +kernel
theorem dX8_bestWater_80 : decode cX8_bestWater 80 = .ok (.iload 5, 2) := by decide +kernel
theorem dX8_bestWater_82 : decode cX8_bestWater 82 = .ok (.invokevirtual 142, 3) := by decide +kernel
theorem dX8_bestWater_85 : decode cX8_bestWater 85 = .ok (.iload_n 2, 1) := by decide +kernel
theorem dX8_bestWater_86 : decode cX8_bestWater 86 = .ok (.if_icmp .lt 20, 3) := by decide +kernel
theorem dX8_bestWater_89 : decode cX8_bestWater 89 = .ok (.iload 6, 2) := by decide +kernel
theorem dX8_bestWater_91 : decode cX8_bestWater 91 = .ok (.iload 4, 2) := by decide +kernel
theorem dX8_bestWater_93 : decode cX8_bestWater 93 = .ok (.if_icmp .gt 6, 3) := by decide +kernel
theorem dX8_bestWater_96 : decode cX8_bestWater 96 = .ok (.goto 10, 3) := by decide +kernel
theorem dX8_bestWater_99 : decode cX8_bestWater 99 = .ok (.iload 6, 2) := by decide +kernel
theorem dX8_bestWater_101 : decode cX8_bestWater 101 = .ok (.istore 4, 2) := by decide +kernel
theorem dX8_bestWater_103 : decode cX8_bestWater 103 = .ok (.iload 5, 2) := by decide +kernel
theorem dX8_bestWater_105 : decode cX8_bestWater 105 = .ok (.istore_n 3, 1) := by decide +kernel
theorem dX8_bestWater_106 : decode cX8_bestWater 106 = .ok (.iinc 5 1, 3) := by decide +kernel
theorem dX8_bestWater_109 : decode cX8_bestWater 109 = .ok (.goto (-70), 3) := by decide +kernel
theorem dX8_bestWater_112 : decode cX8_bestWater 112 = .ok (.iload_n 3, 1) := by decide +kernel
theorem dX8_bestWater_113 : decode cX8_bestWater 113 = .ok (.ireturn, 1) := by decide +kernel
theorem dX8_share_0 : decode cX8_share 0 = .ok (.aload_n 0, 1) := by decide +kernel
theorem dX8_share_1 : decode cX8_share 1 = .ok (.iconst 0, 1) := by decide +kernel
theorem dX8_share_2 : decode cX8_share 2 = .ok (.putfield 23, 3) := by decide +kernel
theorem dX8_share_5 : decode cX8_share 5 = .ok (.aload_n 0, 1) := by decide +kernel
theorem dX8_share_6 : decode cX8_share 6 = .ok (.getfield 118, 3) := by decide +kernel
theorem dX8_share_9 : decode cX8_share 9 = .ok (.aload_n 0, 1) := by decide +kernel
theorem dX8_share_10 : decode cX8_share 10 = .ok (.getfield 10, 3) := by decide +kernel
theorem dX8_share_13 : decode cX8_share 13 = .ok (.getfield 109, 3) := by decide +kernel
theorem dX8_share_16 : decode cX8_share 16 = .ok (.iadd, 1) := by decide +kernel
theorem dX8_share_17 : decode cX8_share 17 = .ok (.aload_n 0, 1) := by decide +kernel
theorem dX8_share_18 : decode cX8_share 18 = .ok (.getfield 112, 3) := by decide +kernel
theorem dX8_share_21 : decode cX8_share 21 = .ok (.iadd, 1) := by decide +kernel
theorem dX8_share_22 : decode cX8_share 22 = .ok (.istore_n 1, 1) := by decide +kernel
theorem dX8_share_23 : decode cX8_share 23 = .ok (.iload_n 1, 1) := by decide +kernel
theorem dX8_share_24 : decode cX8_share 24 = .ok (.ifCond .ne 7, 3) := by decide +kernel
theorem dX8_share_27 : decode cX8_share 27 = .ok (.dconst 0, 1) := by decide +kernel
theorem dX8_share_28 : decode cX8_share 28 = .ok (.goto 11, 3) := by decide +kernel
theorem dX8_share_31 : decode cX8_share 31 = .ok (.aload_n 0, 1) := by decide +kernel
theorem dX8_share_32 : decode cX8_share 32 = .ok (.getfield 118, 3) := by decide +kernel
theorem dX8_share_35 : decode cX8_share 35 = .ok (.i2d, 1) := by decide +kernel
theorem dX8_share_36 : decode cX8_share 36 = .ok (.iload_n 1, 1) := by decide +kernel
theorem dX8_share_37 : decode cX8_share 37 = .ok (.i2d, 1) := by decide +kernel
theorem dX8_share_38 : decode cX8_share 38 = .ok (.ddiv, 1) := by decide +kernel
theorem dX8_share_39 : decode cX8_share 39 = .ok (.dreturn, 1) := by decide +kernel
theorem dX8_digest_0 : decode cX8_digest 0 = .ok (.aload_n 0, 1) := by decide +kernel
theorem dX8_digest_1 : decode cX8_digest 1 = .ok (.iconst 0, 1) := by decide +kernel
theorem dX8_digest_2 : decode cX8_digest 2 = .ok (.putfield 23, 3) := by decide +kernel
theorem dX8_digest_5 : decode cX8_digest 5 = .ok (.ldc2_w 164, 3) := by decide +kernel
theorem dX8_digest_8 : decode cX8_digest 8 = .ok (.lstore_n 1, 1) := by decide +kernel
theorem dX8_digest_9 : decode cX8_digest 9 = .ok (.iconst 0, 1) := by decide +kernel
theorem dX8_digest_10 : decode cX8_digest 10 = .ok (.istore_n 3, 1) := by decide +kernel
theorem dX8_digest_11 : decode cX8_digest 11 = .ok (.iload_n 3, 1) := by decide +kernel
theorem dX8_digest_12 : decode cX8_digest 12 = .ok (.bipush 14, 2) := by decide +kernel
theorem dX8_digest_14 : decode cX8_digest 14 = .ok (.if_icmp .ge 22, 3) := by decide +kernel
theorem dX8_digest_17 : decode cX8_digest 17 = .ok (.lload_n 1, 1) := by decide +kernel
theorem dX8_digest_18 : decode cX8_digest 18 = .ok (.ldc2_w 166, 3) := by decide +kernel
theorem dX8_digest_21 : decode cX8_digest 21 = .ok (.lmul, 1) := by decide +kernel
theorem dX8_digest_22 : decode cX8_digest 22 = .ok (.aload_n 0, 1) := by decide +kernel
theorem dX8_digest_23 : decode cX8_digest 23 = .ok (.iload_n 3, 1) := by decide +kernel
theorem dX8_digest_24 : decode cX8_digest 24 = .ok (.invokevirtual 124, 3) := by decide +kernel
theorem dX8_digest_27 : decode cX8_digest 27 = .ok (.i2l, 1) := by decide +kernel
theorem dX8_digest_28 : decode cX8_digest 28 = .ok (.ladd, 1) := by decide +kernel
theorem dX8_digest_29 : decode cX8_digest 29 = .ok (.lstore_n 1, 1) := by decide +kernel
theorem dX8_digest_30 : decode cX8_digest 30 = .ok (.iinc 3 1, 3) := by decide +kernel
theorem dX8_digest_33 : decode cX8_digest 33 = .ok (.goto (-22), 3) := by decide +kernel
theorem dX8_digest_36 : decode cX8_digest 36 = .ok (.iconst 0, 1) := by decide +kernel
theorem dX8_digest_37 : decode cX8_digest 37 = .ok (.istore_n 3, 1) := by decide +kernel
theorem dX8_digest_38 : decode cX8_digest 38 = .ok (.iload_n 3, 1) := by decide +kernel
theorem dX8_digest_39 : decode cX8_digest 39 = .ok (.bipush 24, 2) := by decide +kernel
theorem dX8_digest_41 : decode cX8_digest 41 = .ok (.if_icmp .ge 26, 3) := by decide +kernel
theorem dX8_digest_44 : decode cX8_digest 44 = .ok (.lload_n 1, 1) := by decide +kernel
theorem dX8_digest_45 : decode cX8_digest 45 = .ok (.ldc2_w 166, 3) := by decide +kernel
theorem dX8_digest_48 : decode cX8_digest 48 = .ok (.lmul, 1) := by decide +kernel
theorem dX8_digest_49 : decode cX8_digest 49 = .ok (.aload_n 0, 1) := by decide +kernel
theorem dX8_digest_50 : decode cX8_digest 50 = .ok (.getfield 10, 3) := by decide +kernel
theorem dX8_digest_53 : decode cX8_digest 53 = .ok (.getfield 35, 3) := by decide +kernel
theorem dX8_digest_56 : decode cX8_digest 56 = .ok (.iload_n 3, 1) := by decide +kernel
theorem dX8_digest_57 : decode cX8_digest 57 = .ok (.iaload, 1) := by decide +kernel
theorem dX8_digest_58 : decode cX8_digest 58 = .ok (.i2l, 1) := by decide +kernel
theorem dX8_digest_59 : decode cX8_digest 59 = .ok (.ladd, 1) := by decide +kernel
theorem dX8_digest_60 : decode cX8_digest 60 = .ok (.lstore_n 1, 1) := by decide +kernel
theorem dX8_digest_61 : decode cX8_digest 61 = .ok (.iinc 3 1, 3) := by decide +kernel
theorem dX8_digest_64 : decode cX8_digest 64 = .ok (.goto (-26), 3) := by decide +kernel
theorem dX8_digest_67 : decode cX8_digest 67 = .ok (.iconst 0, 1) := by decide +kernel
theorem dX8_digest_68 : decode cX8_digest 68 = .ok (.istore_n 3, 1) := by decide +kernel
theorem dX8_digest_69 : decode cX8_digest 69 = .ok (.iload_n 3, 1) := by decide +kernel
theorem dX8_digest_70 : decode cX8_digest 70 = .ok (.aload_n 0, 1) := by decide +kernel
theorem dX8_digest_71 : decode cX8_digest 71 = .ok (.getfield 10, 3) := by decide +kernel
theorem dX8_digest_74 : decode cX8_digest 74 = .ok (.getfield 41, 3) := by decide +kernel
theorem dX8_digest_77 : decode cX8_digest 77 = .ok (.if_icmp .ge 119, 3) := by decide +kernel
theorem dX8_digest_80 : decode cX8_digest 80 = .ok (.iconst 0, 1) := by decide +kernel
theorem dX8_digest_81 : decode cX8_digest 81 = .ok (.istore 4, 2) := by decide +kernel
theorem dX8_digest_83 : decode cX8_digest 83 = .ok (.iload 4, 2) := by decide +kernel
theorem dX8_digest_85 : decode cX8_digest 85 = .ok (.bipush 12, 2) := by decide +kernel
theorem dX8_digest_87 : decode cX8_digest 87 = .ok (.if_icmp .ge 24, 3) := by decide +kernel
theorem dX8_digest_90 : decode cX8_digest 90 = .ok (.lload_n 1, 1) := by decide +kernel
theorem dX8_digest_91 : decode cX8_digest 91 = .ok (.ldc2_w 166, 3) := by decide +kernel
theorem dX8_digest_94 : decode cX8_digest 94 = .ok (.lmul, 1) := by decide +kernel
theorem dX8_digest_95 : decode cX8_digest 95 = .ok (.aload_n 0, 1) := by decide +kernel
theorem dX8_digest_96 : decode cX8_digest 96 = .ok (.iload_n 3, 1) := by decide +kernel
theorem dX8_digest_97 : decode cX8_digest 97 = .ok (.iload 4, 2) := by decide +kernel
theorem dX8_digest_99 : decode cX8_digest 99 = .ok (.invokevirtual 75, 3) := by decide +kernel
theorem dX8_digest_102 : decode cX8_digest 102 = .ok (.i2l, 1) := by decide +kernel
theorem dX8_digest_103 : decode cX8_digest 103 = .ok (.ladd, 1) := by decide +kernel
theorem dX8_digest_104 : decode cX8_digest 104 = .ok (.lstore_n 1, 1) := by decide +kernel
theorem dX8_digest_105 : decode cX8_digest 105 = .ok (.iinc 4 1, 3) := by decide +kernel
theorem dX8_digest_108 : decode cX8_digest 108 = .ok (.goto (-25), 3) := by decide +kernel
theorem dX8_digest_111 : decode cX8_digest 111 = .ok (.iconst 4, 1) := by decide +kernel
theorem dX8_digest_112 : decode cX8_digest 112 = .ok (.iload_n 3, 1) := by decide +kernel
theorem dX8_digest_113 : decode cX8_digest 113 = .ok (.imul, 1) := by decide +kernel
theorem dX8_digest_114 : decode cX8_digest 114 = .ok (.istore 4, 2) := by decide +kernel
theorem dX8_digest_116 : decode cX8_digest 116 = .ok (.iload 4, 2) := by decide +kernel
theorem dX8_digest_118 : decode cX8_digest 118 = .ok (.iconst 4, 1) := by decide +kernel
theorem dX8_digest_119 : decode cX8_digest 119 = .ok (.iload_n 3, 1) := by decide +kernel
theorem dX8_digest_120 : decode cX8_digest 120 = .ok (.imul, 1) := by decide +kernel
theorem dX8_digest_121 : decode cX8_digest 121 = .ok (.aload_n 0, 1) := by decide +kernel
theorem dX8_digest_122 : decode cX8_digest 122 = .ok (.getfield 10, 3) := by decide +kernel
theorem dX8_digest_125 : decode cX8_digest 125 = .ok (.getfield 54, 3) := by decide +kernel
theorem dX8_digest_128 : decode cX8_digest 128 = .ok (.iload_n 3, 1) := by decide +kernel
theorem dX8_digest_129 : decode cX8_digest 129 = .ok (.iaload, 1) := by decide +kernel
theorem dX8_digest_130 : decode cX8_digest 130 = .ok (.iadd, 1) := by decide +kernel
theorem dX8_digest_131 : decode cX8_digest 131 = .ok (.if_icmp .ge 59, 3) := by decide +kernel
theorem dX8_digest_134 : decode cX8_digest 134 = .ok (.lload_n 1, 1) := by decide +kernel
theorem dX8_digest_135 : decode cX8_digest 135 = .ok (.ldc2_w 166, 3) := by decide +kernel
theorem dX8_digest_138 : decode cX8_digest 138 = .ok (.lmul, 1) := by decide +kernel
theorem dX8_digest_139 : decode cX8_digest 139 = .ok (.aload_n 0, 1) := by decide +kernel
theorem dX8_digest_140 : decode cX8_digest 140 = .ok (.getfield 10, 3) := by decide +kernel
theorem dX8_digest_143 : decode cX8_digest 143 = .ok (.getfield 57, 3) := by decide +kernel
theorem dX8_digest_146 : decode cX8_digest 146 = .ok (.iload 4, 2) := by decide +kernel
theorem dX8_digest_148 : decode cX8_digest 148 = .ok (.iaload, 1) := by decide +kernel
theorem dX8_digest_149 : decode cX8_digest 149 = .ok (.i2l, 1) := by decide +kernel
theorem dX8_digest_150 : decode cX8_digest 150 = .ok (.ladd, 1) := by decide +kernel
theorem dX8_digest_151 : decode cX8_digest 151 = .ok (.ldc2_w 166, 3) := by decide +kernel
theorem dX8_digest_154 : decode cX8_digest 154 = .ok (.lmul, 1) := by decide +kernel
theorem dX8_digest_155 : decode cX8_digest 155 = .ok (.aload_n 0, 1) := by decide +kernel
theorem dX8_digest_156 : decode cX8_digest 156 = .ok (.getfield 10, 3) := by decide +kernel
theorem dX8_digest_159 : decode cX8_digest 159 = .ok (.getfield 60, 3) := by decide +kernel
theorem dX8_digest_162 : decode cX8_digest 162 = .ok (.iload 4, 2) := by decide +kernel
theorem dX8_digest_164 : decode cX8_digest 164 = .ok (.iaload, 1) := by decide +kernel
theorem dX8_digest_165 : decode cX8_digest 165 = .ok (.i2l, 1) := by decide +kernel
theorem dX8_digest_166 : decode cX8_digest 166 = .ok (.ladd, 1) := by decide +kernel
theorem dX8_digest_167 : decode cX8_digest 167 = .ok (.ldc2_w 166, 3) := by decide +kernel
theorem dX8_digest_170 : decode cX8_digest 170 = .ok (.lmul, 1) := by decide +kernel
theorem dX8_digest_171 : decode cX8_digest 171 = .ok (.aload_n 0, 1) := by decide +kernel
theorem dX8_digest_172 : decode cX8_digest 172 = .ok (.getfield 10, 3) := by decide +kernel
theorem dX8_digest_175 : decode cX8_digest 175 = .ok (.getfield 63, 3) := by decide +kernel
theorem dX8_digest_178 : decode cX8_digest 178 = .ok (.iload 4, 2) := by decide +kernel
theorem dX8_digest_180 : decode cX8_digest 180 = .ok (.iaload, 1) := by decide +kernel
theorem dX8_digest_181 : decode cX8_digest 181 = .ok (.i2l, 1) := by decide +kernel
theorem dX8_digest_182 : decode cX8_digest 182 = .ok (.ladd, 1) := by decide +kernel
theorem dX8_digest_183 : decode cX8_digest 183 = .ok (.lstore_n 1, 1) := by decide +kernel
theorem dX8_digest_184 : decode cX8_digest 184 = .ok (.iinc 4 1, 3) := by decide +kernel
theorem dX8_digest_187 : decode cX8_digest 187 = .ok (.goto (-71), 3) := by decide +kernel
theorem dX8_digest_190 : decode cX8_digest 190 = .ok (.iinc 3 1, 3) := by decide +kernel
theorem dX8_digest_193 : decode cX8_digest 193 = .ok (.goto (-124), 3) := by decide +kernel
theorem dX8_digest_196 : decode cX8_digest 196 = .ok (.iconst 0, 1) := by decide +kernel
theorem dX8_digest_197 : decode cX8_digest 197 = .ok (.istore_n 3, 1) := by decide +kernel
theorem dX8_digest_198 : decode cX8_digest 198 = .ok (.iload_n 3, 1) := by decide +kernel
theorem dX8_digest_199 : decode cX8_digest 199 = .ok (.iconst 3, 1) := by decide +kernel
theorem dX8_digest_200 : decode cX8_digest 200 = .ok (.aload_n 0, 1) := by decide +kernel
theorem dX8_digest_201 : decode cX8_digest 201 = .ok (.getfield 10, 3) := by decide +kernel
theorem dX8_digest_204 : decode cX8_digest 204 = .ok (.getfield 79, 3) := by decide +kernel
theorem dX8_digest_207 : decode cX8_digest 207 = .ok (.imul, 1) := by decide +kernel
theorem dX8_digest_208 : decode cX8_digest 208 = .ok (.if_icmp .ge 26, 3) := by decide +kernel
theorem dX8_digest_211 : decode cX8_digest 211 = .ok (.lload_n 1, 1) := by decide +kernel
theorem dX8_digest_212 : decode cX8_digest 212 = .ok (.ldc2_w 166, 3) := by decide +kernel
theorem dX8_digest_215 : decode cX8_digest 215 = .ok (.lmul, 1) := by decide +kernel
theorem dX8_digest_216 : decode cX8_digest 216 = .ok (.aload_n 0, 1) := by decide +kernel
theorem dX8_digest_217 : decode cX8_digest 217 = .ok (.getfield 10, 3) := by decide +kernel
theorem dX8_digest_220 : decode cX8_digest 220 = .ok (.getfield 86, 3) := by decide +kernel
theorem dX8_digest_223 : decode cX8_digest 223 = .ok (.iload_n 3, 1) := by decide +kernel
theorem dX8_digest_224 : decode cX8_digest 224 = .ok (.iaload, 1) := by decide +kernel
theorem dX8_digest_225 : decode cX8_digest 225 = .ok (.i2l, 1) := by decide +kernel
theorem dX8_digest_226 : decode cX8_digest 226 = .ok (.ladd, 1) := by decide +kernel
theorem dX8_digest_227 : decode cX8_digest 227 = .ok (.lstore_n 1, 1) := by decide +kernel
theorem dX8_digest_228 : decode cX8_digest 228 = .ok (.iinc 3 1, 3) := by decide +kernel
theorem dX8_digest_231 : decode cX8_digest 231 = .ok (.goto (-33), 3) := by decide +kernel
theorem dX8_digest_234 : decode cX8_digest 234 = .ok (.iconst 0, 1) := by decide +kernel
theorem dX8_digest_235 : decode cX8_digest 235 = .ok (.istore_n 3, 1) := by decide +kernel
theorem dX8_digest_236 : decode cX8_digest 236 = .ok (.iload_n 3, 1) := by decide +kernel
theorem dX8_digest_237 : decode cX8_digest 237 = .ok (.iconst 3, 1) := by decide +kernel
theorem dX8_digest_238 : decode cX8_digest 238 = .ok (.if_icmp .ge 39, 3) := by decide +kernel
theorem dX8_digest_241 : decode cX8_digest 241 = .ok (.iconst 0, 1) := by decide +kernel
theorem dX8_digest_242 : decode cX8_digest 242 = .ok (.istore 4, 2) := by decide +kernel
theorem dX8_digest_244 : decode cX8_digest 244 = .ok (.iload 4, 2) := by decide +kernel
theorem dX8_digest_246 : decode cX8_digest 246 = .ok (.iconst 3, 1) := by decide +kernel
theorem dX8_digest_247 : decode cX8_digest 247 = .ok (.if_icmp .ge 24, 3) := by decide +kernel
theorem dX8_digest_250 : decode cX8_digest 250 = .ok (.lload_n 1, 1) := by decide +kernel
theorem dX8_digest_251 : decode cX8_digest 251 = .ok (.ldc2_w 166, 3) := by decide +kernel
theorem dX8_digest_254 : decode cX8_digest 254 = .ok (.lmul, 1) := by decide +kernel
theorem dX8_digest_255 : decode cX8_digest 255 = .ok (.aload_n 0, 1) := by decide +kernel
theorem dX8_digest_256 : decode cX8_digest 256 = .ok (.iload_n 3, 1) := by decide +kernel
theorem dX8_digest_257 : decode cX8_digest 257 = .ok (.iload 4, 2) := by decide +kernel
theorem dX8_digest_259 : decode cX8_digest 259 = .ok (.invokevirtual 136, 3) := by decide +kernel
theorem dX8_digest_262 : decode cX8_digest 262 = .ok (.i2l, 1) := by decide +kernel
theorem dX8_digest_263 : decode cX8_digest 263 = .ok (.ladd, 1) := by decide +kernel
theorem dX8_digest_264 : decode cX8_digest 264 = .ok (.lstore_n 1, 1) := by decide +kernel
theorem dX8_digest_265 : decode cX8_digest 265 = .ok (.iinc 4 1, 3) := by decide +kernel
theorem dX8_digest_268 : decode cX8_digest 268 = .ok (.goto (-24), 3) := by decide +kernel
theorem dX8_digest_271 : decode cX8_digest 271 = .ok (.iinc 3 1, 3) := by decide +kernel
theorem dX8_digest_274 : decode cX8_digest 274 = .ok (.goto (-38), 3) := by decide +kernel
theorem dX8_digest_277 : decode cX8_digest 277 = .ok (.lload_n 1, 1) := by decide +kernel
theorem dX8_digest_278 : decode cX8_digest 278 = .ok (.lreturn, 1) := by decide +kernel
theorem dJ9_floorMod_7cf53_0 : decode cJ9_floorMod_7cf53 0 = .ok (.iload_n 0, 1) := by decide +kernel
theorem dJ9_floorMod_7cf53_1 : decode cJ9_floorMod_7cf53 1 = .ok (.iload_n 1, 1) := by decide +kernel
theorem dJ9_floorMod_7cf53_2 : decode cJ9_floorMod_7cf53 2 = .ok (.irem, 1) := by decide +kernel
theorem dJ9_floorMod_7cf53_3 : decode cJ9_floorMod_7cf53 3 = .ok (.istore_n 2, 1) := by decide +kernel
theorem dJ9_floorMod_7cf53_4 : decode cJ9_floorMod_7cf53 4 = .ok (.iload_n 0, 1) := by decide +kernel
theorem dJ9_floorMod_7cf53_5 : decode cJ9_floorMod_7cf53 5 = .ok (.iload_n 1, 1) := by decide +kernel
theorem dJ9_floorMod_7cf53_6 : decode cJ9_floorMod_7cf53 6 = .ok (.ixor, 1) := by decide +kernel
theorem dJ9_floorMod_7cf53_7 : decode cJ9_floorMod_7cf53 7 = .ok (.ifCond .ge 11, 3) := by decide +kernel
theorem dJ9_floorMod_7cf53_10 : decode cJ9_floorMod_7cf53 10 = .ok (.iload_n 2, 1) := by decide +kernel
theorem dJ9_floorMod_7cf53_11 : decode cJ9_floorMod_7cf53 11 = .ok (.ifCond .eq 7, 3) := by decide +kernel
theorem dJ9_floorMod_7cf53_14 : decode cJ9_floorMod_7cf53 14 = .ok (.iload_n 2, 1) := by decide +kernel
theorem dJ9_floorMod_7cf53_15 : decode cJ9_floorMod_7cf53 15 = .ok (.iload_n 1, 1) := by decide +kernel
theorem dJ9_floorMod_7cf53_16 : decode cJ9_floorMod_7cf53 16 = .ok (.iadd, 1) := by decide +kernel
theorem dJ9_floorMod_7cf53_17 : decode cJ9_floorMod_7cf53 17 = .ok (.ireturn, 1) := by decide +kernel
theorem dJ9_floorMod_7cf53_18 : decode cJ9_floorMod_7cf53 18 = .ok (.iload_n 2, 1) := by decide +kernel
theorem dJ9_floorMod_7cf53_19 : decode cJ9_floorMod_7cf53 19 = .ok (.ireturn, 1) := by decide +kernel
theorem dJ9_max_7cf53_0 : decode cJ9_max_7cf53 0 = .ok (.iload_n 0, 1) := by decide +kernel
theorem dJ9_max_7cf53_1 : decode cJ9_max_7cf53 1 = .ok (.iload_n 1, 1) := by decide +kernel
theorem dJ9_max_7cf53_2 : decode cJ9_max_7cf53 2 = .ok (.if_icmp .lt 7, 3) := by decide +kernel
theorem dJ9_max_7cf53_5 : decode cJ9_max_7cf53 5 = .ok (.iload_n 0, 1) := by decide +kernel
theorem dJ9_max_7cf53_6 : decode cJ9_max_7cf53 6 = .ok (.goto 4, 3) := by decide +kernel
theorem dJ9_max_7cf53_9 : decode cJ9_max_7cf53 9 = .ok (.iload_n 1, 1) := by decide +kernel
theorem dJ9_max_7cf53_10 : decode cJ9_max_7cf53 10 = .ok (.ireturn, 1) := by decide +kernel
theorem dJ9_min_7cf53_0 : decode cJ9_min_7cf53 0 = .ok (.iload_n 0, 1) := by decide +kernel
theorem dJ9_min_7cf53_1 : decode cJ9_min_7cf53 1 = .ok (.iload_n 1, 1) := by decide +kernel
theorem dJ9_min_7cf53_2 : decode cJ9_min_7cf53 2 = .ok (.if_icmp .gt 7, 3) := by decide +kernel
theorem dJ9_min_7cf53_5 : decode cJ9_min_7cf53 5 = .ok (.iload_n 0, 1) := by decide +kernel
theorem dJ9_min_7cf53_6 : decode cJ9_min_7cf53 6 = .ok (.goto 4, 3) := by decide +kernel
theorem dJ9_min_7cf53_9 : decode cJ9_min_7cf53 9 = .ok (.iload_n 1, 1) := by decide +kernel
theorem dJ9_min_7cf53_10 : decode cJ9_min_7cf53 10 = .ok (.ireturn, 1) := by decide +kernel
theorem dL_setInflow_0 : decode cL_setInflow 0 = .ok (.aload_n 3, 1) := by decide +kernel
theorem dL_setInflow_1 : decode cL_setInflow 1 = .ok (.iconst 0, 1) := by decide +kernel
theorem dL_setInflow_2 : decode cL_setInflow 2 = .ok (.aload_n 0, 1) := by decide +kernel
theorem dL_setInflow_3 : decode cL_setInflow 3 = .ok (.iload_n 1, 1) := by decide +kernel
theorem dL_setInflow_4 : decode cL_setInflow 4 = .ok (.iload_n 2, 1) := by decide +kernel
theorem dL_setInflow_5 : decode cL_setInflow 5 = .ok (.invokevirtual 7, 3) := by decide +kernel
theorem dL_setInflow_8 : decode cL_setInflow 8 = .ok (.i2l, 1) := by decide +kernel
theorem dL_setInflow_9 : decode cL_setInflow 9 = .ok (.lastore, 1) := by decide +kernel
theorem dL_setInflow_10 : decode cL_setInflow 10 = .ok (.goto 11, 3) := by decide +kernel
theorem dL_setInflow_13 : decode cL_setInflow 13 = .ok (.astore 4, 2) := by decide +kernel
theorem dL_setInflow_15 : decode cL_setInflow 15 = .ok (.iconst 1, 1) := by decide +kernel
theorem dL_setInflow_16 : decode cL_setInflow 16 = .ok (.ireturn, 1) := by decide +kernel
theorem dL_setInflow_17 : decode cL_setInflow 17 = .ok (.astore 4, 2) := by decide +kernel
theorem dL_setInflow_19 : decode cL_setInflow 19 = .ok (.iconst 2, 1) := by decide +kernel
theorem dL_setInflow_20 : decode cL_setInflow 20 = .ok (.ireturn, 1) := by decide +kernel
theorem dL_setInflow_21 : decode cL_setInflow 21 = .ok (.iconst 0, 1) := by decide +kernel
theorem dL_setInflow_22 : decode cL_setInflow 22 = .ok (.ireturn, 1) := by decide +kernel
theorem dL_setSluice_0 : decode cL_setSluice 0 = .ok (.aload_n 2, 1) := by decide +kernel
theorem dL_setSluice_1 : decode cL_setSluice 1 = .ok (.iconst 0, 1) := by decide +kernel
theorem dL_setSluice_2 : decode cL_setSluice 2 = .ok (.aload_n 0, 1) := by decide +kernel
theorem dL_setSluice_3 : decode cL_setSluice 3 = .ok (.iload_n 1, 1) := by decide +kernel
theorem dL_setSluice_4 : decode cL_setSluice 4 = .ok (.invokevirtual 17, 3) := by decide +kernel
theorem dL_setSluice_7 : decode cL_setSluice 7 = .ok (.i2l, 1) := by decide +kernel
theorem dL_setSluice_8 : decode cL_setSluice 8 = .ok (.lastore, 1) := by decide +kernel
theorem dL_setSluice_9 : decode cL_setSluice 9 = .ok (.goto 6, 3) := by decide +kernel
theorem dL_setSluice_12 : decode cL_setSluice 12 = .ok (.astore_n 3, 1) := by decide +kernel
theorem dL_setSluice_13 : decode cL_setSluice 13 = .ok (.iconst 1, 1) := by decide +kernel
theorem dL_setSluice_14 : decode cL_setSluice 14 = .ok (.ireturn, 1) := by decide +kernel
theorem dL_setSluice_15 : decode cL_setSluice 15 = .ok (.iconst 0, 1) := by decide +kernel
theorem dL_setSluice_16 : decode cL_setSluice 16 = .ok (.ireturn, 1) := by decide +kernel
theorem dL_addBox_0 : decode cL_addBox 0 = .ok (.aload_n 1, 1) := by decide +kernel
theorem dL_addBox_1 : decode cL_addBox 1 = .ok (.iconst 0, 1) := by decide +kernel
theorem dL_addBox_2 : decode cL_addBox 2 = .ok (.aload_n 0, 1) := by decide +kernel
theorem dL_addBox_3 : decode cL_addBox 3 = .ok (.invokevirtual 21, 3) := by decide +kernel
theorem dL_addBox_6 : decode cL_addBox 6 = .ok (.i2l, 1) := by decide +kernel
theorem dL_addBox_7 : decode cL_addBox 7 = .ok (.lastore, 1) := by decide +kernel
theorem dL_addBox_8 : decode cL_addBox 8 = .ok (.goto 6, 3) := by decide +kernel
theorem dL_addBox_11 : decode cL_addBox 11 = .ok (.astore_n 2, 1) := by decide +kernel
theorem dL_addBox_12 : decode cL_addBox 12 = .ok (.iconst 1, 1) := by decide +kernel
theorem dL_addBox_13 : decode cL_addBox 13 = .ok (.ireturn, 1) := by decide +kernel
theorem dL_addBox_14 : decode cL_addBox 14 = .ok (.iconst 0, 1) := by decide +kernel
theorem dL_addBox_15 : decode cL_addBox 15 = .ok (.ireturn, 1) := by decide +kernel
theorem dL_hang_0 : decode cL_hang 0 = .ok (.aload 4, 2) := by decide +kernel
theorem dL_hang_2 : decode cL_hang 2 = .ok (.iconst 0, 1) := by decide +kernel
theorem dL_hang_3 : decode cL_hang 3 = .ok (.aload_n 0, 1) := by decide +kernel
theorem dL_hang_4 : decode cL_hang 4 = .ok (.iload_n 1, 1) := by decide +kernel
theorem dL_hang_5 : decode cL_hang 5 = .ok (.iload_n 2, 1) := by decide +kernel
theorem dL_hang_6 : decode cL_hang 6 = .ok (.iload_n 3, 1) := by decide +kernel
theorem dL_hang_7 : decode cL_hang 7 = .ok (.invokevirtual 27, 3) := by decide +kernel
theorem dL_hang_10 : decode cL_hang 10 = .ok (.i2l, 1) := by decide +kernel
theorem dL_hang_11 : decode cL_hang 11 = .ok (.lastore, 1) := by decide +kernel
theorem dL_hang_12 : decode cL_hang 12 = .ok (.goto 15, 3) := by decide +kernel
theorem dL_hang_15 : decode cL_hang 15 = .ok (.astore 5, 2) := by decide +kernel
theorem dL_hang_17 : decode cL_hang 17 = .ok (.iconst 1, 1) := by decide +kernel
theorem dL_hang_18 : decode cL_hang 18 = .ok (.ireturn, 1) := by decide +kernel
theorem dL_hang_19 : decode cL_hang 19 = .ok (.astore 5, 2) := by decide +kernel
theorem dL_hang_21 : decode cL_hang 21 = .ok (.iconst 2, 1) := by decide +kernel
theorem dL_hang_22 : decode cL_hang 22 = .ok (.ireturn, 1) := by decide +kernel
theorem dL_hang_23 : decode cL_hang 23 = .ok (.astore 5, 2) := by decide +kernel
theorem dL_hang_25 : decode cL_hang 25 = .ok (.iconst 3, 1) := by decide +kernel
theorem dL_hang_26 : decode cL_hang 26 = .ok (.ireturn, 1) := by decide +kernel
theorem dL_hang_27 : decode cL_hang 27 = .ok (.iconst 0, 1) := by decide +kernel
theorem dL_hang_28 : decode cL_hang 28 = .ok (.ireturn, 1) := by decide +kernel
theorem dL_shoe_0 : decode cL_shoe 0 = .ok (.aload_n 3, 1) := by decide +kernel
theorem dL_shoe_1 : decode cL_shoe 1 = .ok (.iconst 0, 1) := by decide +kernel
theorem dL_shoe_2 : decode cL_shoe 2 = .ok (.aload_n 0, 1) := by decide +kernel
theorem dL_shoe_3 : decode cL_shoe 3 = .ok (.iload_n 1, 1) := by decide +kernel
theorem dL_shoe_4 : decode cL_shoe 4 = .ok (.iload_n 2, 1) := by decide +kernel
theorem dL_shoe_5 : decode cL_shoe 5 = .ok (.invokevirtual 31, 3) := by decide +kernel
theorem dL_shoe_8 : decode cL_shoe 8 = .ok (.i2l, 1) := by decide +kernel
theorem dL_shoe_9 : decode cL_shoe 9 = .ok (.lastore, 1) := by decide +kernel
theorem dL_shoe_10 : decode cL_shoe 10 = .ok (.goto 7, 3) := by decide +kernel
theorem dL_shoe_13 : decode cL_shoe 13 = .ok (.astore 4, 2) := by decide +kernel
theorem dL_shoe_15 : decode cL_shoe 15 = .ok (.iconst 1, 1) := by decide +kernel
theorem dL_shoe_16 : decode cL_shoe 16 = .ok (.ireturn, 1) := by decide +kernel
theorem dL_shoe_17 : decode cL_shoe 17 = .ok (.iconst 0, 1) := by decide +kernel
theorem dL_shoe_18 : decode cL_shoe 18 = .ok (.ireturn, 1) := by decide +kernel
theorem dL_setBox_0 : decode cL_setBox 0 = .ok (.aload 4, 2) := by decide +kernel
theorem dL_setBox_2 : decode cL_setBox 2 = .ok (.iconst 0, 1) := by decide +kernel
theorem dL_setBox_3 : decode cL_setBox 3 = .ok (.aload_n 0, 1) := by decide +kernel
theorem dL_setBox_4 : decode cL_setBox 4 = .ok (.iload_n 1, 1) := by decide +kernel
theorem dL_setBox_5 : decode cL_setBox 5 = .ok (.iload_n 2, 1) := by decide +kernel
theorem dL_setBox_6 : decode cL_setBox 6 = .ok (.iload_n 3, 1) := by decide +kernel
theorem dL_setBox_7 : decode cL_setBox 7 = .ok (.invokevirtual 34, 3) := by decide +kernel
theorem dL_setBox_10 : decode cL_setBox 10 = .ok (.i2l, 1) := by decide +kernel
theorem dL_setBox_11 : decode cL_setBox 11 = .ok (.lastore, 1) := by decide +kernel
theorem dL_setBox_12 : decode cL_setBox 12 = .ok (.goto 11, 3) := by decide +kernel
theorem dL_setBox_15 : decode cL_setBox 15 = .ok (.astore 5, 2) := by decide +kernel
theorem dL_setBox_17 : decode cL_setBox 17 = .ok (.iconst 1, 1) := by decide +kernel
theorem dL_setBox_18 : decode cL_setBox 18 = .ok (.ireturn, 1) := by decide +kernel
theorem dL_setBox_19 : decode cL_setBox 19 = .ok (.astore 5, 2) := by decide +kernel
theorem dL_setBox_21 : decode cL_setBox 21 = .ok (.iconst 2, 1) := by decide +kernel
theorem dL_setBox_22 : decode cL_setBox 22 = .ok (.ireturn, 1) := by decide +kernel
theorem dL_setBox_23 : decode cL_setBox 23 = .ok (.iconst 0, 1) := by decide +kernel
theorem dL_setBox_24 : decode cL_setBox 24 = .ok (.ireturn, 1) := by decide +kernel
theorem dL_box_0 : decode cL_box 0 = .ok (.aload_n 3, 1) := by decide +kernel
theorem dL_box_1 : decode cL_box 1 = .ok (.iconst 0, 1) := by decide +kernel
theorem dL_box_2 : decode cL_box 2 = .ok (.aload_n 0, 1) := by decide +kernel
theorem dL_box_3 : decode cL_box 3 = .ok (.iload_n 1, 1) := by decide +kernel
theorem dL_box_4 : decode cL_box 4 = .ok (.iload_n 2, 1) := by decide +kernel
theorem dL_box_5 : decode cL_box 5 = .ok (.invokevirtual 37, 3) := by decide +kernel
theorem dL_box_8 : decode cL_box 8 = .ok (.i2l, 1) := by decide +kernel
theorem dL_box_9 : decode cL_box 9 = .ok (.lastore, 1) := by decide +kernel
theorem dL_box_10 : decode cL_box 10 = .ok (.goto 7, 3) := by decide +kernel
theorem dL_box_13 : decode cL_box 13 = .ok (.astore 4, 2) := by decide +kernel
theorem dL_box_15 : decode cL_box 15 = .ok (.iconst 1, 1) := by decide +kernel
theorem dL_box_16 : decode cL_box 16 = .ok (.ireturn, 1) := by decide +kernel
theorem dL_box_17 : decode cL_box 17 = .ok (.iconst 0, 1) := by decide +kernel
theorem dL_box_18 : decode cL_box 18 = .ok (.ireturn, 1) := by decide +kernel
theorem dL_bring_0 : decode cL_bring 0 = .ok (.aload 4, 2) := by decide +kernel
theorem dL_bring_2 : decode cL_bring 2 = .ok (.iconst 0, 1) := by decide +kernel
theorem dL_bring_3 : decode cL_bring 3 = .ok (.aload_n 0, 1) := by decide +kernel
theorem dL_bring_4 : decode cL_bring 4 = .ok (.iload_n 1, 1) := by decide +kernel
theorem dL_bring_5 : decode cL_bring 5 = .ok (.iload_n 2, 1) := by decide +kernel
theorem dL_bring_6 : decode cL_bring 6 = .ok (.iload_n 3, 1) := by decide +kernel
theorem dL_bring_7 : decode cL_bring 7 = .ok (.invokevirtual 40, 3) := by decide +kernel
theorem dL_bring_10 : decode cL_bring 10 = .ok (.i2l, 1) := by decide +kernel
theorem dL_bring_11 : decode cL_bring 11 = .ok (.lastore, 1) := by decide +kernel
theorem dL_bring_12 : decode cL_bring 12 = .ok (.goto 11, 3) := by decide +kernel
theorem dL_bring_15 : decode cL_bring 15 = .ok (.astore 5, 2) := by decide +kernel
theorem dL_bring_17 : decode cL_bring 17 = .ok (.iconst 1, 1) := by decide +kernel
theorem dL_bring_18 : decode cL_bring 18 = .ok (.ireturn, 1) := by decide +kernel
theorem dL_bring_19 : decode cL_bring 19 = .ok (.astore 5, 2) := by decide +kernel
theorem dL_bring_21 : decode cL_bring 21 = .ok (.iconst 2, 1) := by decide +kernel
theorem dL_bring_22 : decode cL_bring 22 = .ok (.ireturn, 1) := by decide +kernel
theorem dL_bring_23 : decode cL_bring 23 = .ok (.iconst 0, 1) := by decide +kernel
theorem dL_bring_24 : decode cL_bring 24 = .ok (.ireturn, 1) := by decide +kernel
theorem dL_lot_0 : decode cL_lot 0 = .ok (.aload_n 3, 1) := by decide +kernel
theorem dL_lot_1 : decode cL_lot 1 = .ok (.iconst 0, 1) := by decide +kernel
theorem dL_lot_2 : decode cL_lot 2 = .ok (.aload_n 0, 1) := by decide +kernel
theorem dL_lot_3 : decode cL_lot 3 = .ok (.iload_n 1, 1) := by decide +kernel
theorem dL_lot_4 : decode cL_lot 4 = .ok (.iload_n 2, 1) := by decide +kernel
theorem dL_lot_5 : decode cL_lot 5 = .ok (.invokevirtual 43, 3) := by decide +kernel
theorem dL_lot_8 : decode cL_lot 8 = .ok (.i2l, 1) := by decide +kernel
theorem dL_lot_9 : decode cL_lot 9 = .ok (.lastore, 1) := by decide +kernel
theorem dL_lot_10 : decode cL_lot 10 = .ok (.goto 7, 3) := by decide +kernel
theorem dL_lot_13 : decode cL_lot 13 = .ok (.astore 4, 2) := by decide +kernel
theorem dL_lot_15 : decode cL_lot 15 = .ok (.iconst 1, 1) := by decide +kernel
theorem dL_lot_16 : decode cL_lot 16 = .ok (.ireturn, 1) := by decide +kernel
theorem dL_lot_17 : decode cL_lot 17 = .ok (.iconst 0, 1) := by decide +kernel
theorem dL_lot_18 : decode cL_lot 18 = .ok (.ireturn, 1) := by decide +kernel
theorem dL_run_0 : decode cL_run 0 = .ok (.aload_n 2, 1) := by decide +kernel
theorem dL_run_1 : decode cL_run 1 = .ok (.iconst 0, 1) := by decide +kernel
theorem dL_run_2 : decode cL_run 2 = .ok (.aload_n 0, 1) := by decide +kernel
theorem dL_run_3 : decode cL_run 3 = .ok (.iload_n 1, 1) := by decide +kernel
theorem dL_run_4 : decode cL_run 4 = .ok (.invokevirtual 46, 3) := by decide +kernel
theorem dL_run_7 : decode cL_run 7 = .ok (.i2l, 1) := by decide +kernel
theorem dL_run_8 : decode cL_run 8 = .ok (.lastore, 1) := by decide +kernel
theorem dL_run_9 : decode cL_run 9 = .ok (.goto 9, 3) := by decide +kernel
theorem dL_run_12 : decode cL_run 12 = .ok (.astore_n 3, 1) := by decide +kernel
theorem dL_run_13 : decode cL_run 13 = .ok (.iconst 1, 1) := by decide +kernel
theorem dL_run_14 : decode cL_run 14 = .ok (.ireturn, 1) := by decide +kernel
theorem dL_run_15 : decode cL_run 15 = .ok (.astore_n 3, 1) := by decide +kernel
theorem dL_run_16 : decode cL_run 16 = .ok (.iconst 2, 1) := by decide +kernel
theorem dL_run_17 : decode cL_run 17 = .ok (.ireturn, 1) := by decide +kernel
theorem dL_run_18 : decode cL_run 18 = .ok (.iconst 0, 1) := by decide +kernel
theorem dL_run_19 : decode cL_run 19 = .ok (.ireturn, 1) := by decide +kernel
theorem dL_count_0 : decode cL_count 0 = .ok (.aload_n 2, 1) := by decide +kernel
theorem dL_count_1 : decode cL_count 1 = .ok (.iconst 0, 1) := by decide +kernel
theorem dL_count_2 : decode cL_count 2 = .ok (.aload_n 0, 1) := by decide +kernel
theorem dL_count_3 : decode cL_count 3 = .ok (.iload_n 1, 1) := by decide +kernel
theorem dL_count_4 : decode cL_count 4 = .ok (.invokevirtual 49, 3) := by decide +kernel
theorem dL_count_7 : decode cL_count 7 = .ok (.i2l, 1) := by decide +kernel
theorem dL_count_8 : decode cL_count 8 = .ok (.lastore, 1) := by decide +kernel
theorem dL_count_9 : decode cL_count 9 = .ok (.goto 6, 3) := by decide +kernel
theorem dL_count_12 : decode cL_count 12 = .ok (.astore_n 3, 1) := by decide +kernel
theorem dL_count_13 : decode cL_count 13 = .ok (.iconst 1, 1) := by decide +kernel
theorem dL_count_14 : decode cL_count 14 = .ok (.ireturn, 1) := by decide +kernel
theorem dL_count_15 : decode cL_count 15 = .ok (.iconst 0, 1) := by decide +kernel
theorem dL_count_16 : decode cL_count 16 = .ok (.ireturn, 1) := by decide +kernel
theorem dL_buddle_0 : decode cL_buddle 0 = .ok (.aload_n 3, 1) := by decide +kernel
theorem dL_buddle_1 : decode cL_buddle 1 = .ok (.iconst 0, 1) := by decide +kernel
theorem dL_buddle_2 : decode cL_buddle 2 = .ok (.aload_n 0, 1) := by decide +kernel
theorem dL_buddle_3 : decode cL_buddle 3 = .ok (.iload_n 1, 1) := by decide +kernel
theorem dL_buddle_4 : decode cL_buddle 4 = .ok (.iload_n 2, 1) := by decide +kernel
theorem dL_buddle_5 : decode cL_buddle 5 = .ok (.invokevirtual 52, 3) := by decide +kernel
theorem dL_buddle_8 : decode cL_buddle 8 = .ok (.i2l, 1) := by decide +kernel
theorem dL_buddle_9 : decode cL_buddle 9 = .ok (.lastore, 1) := by decide +kernel
theorem dL_buddle_10 : decode cL_buddle 10 = .ok (.goto 7, 3) := by decide +kernel
theorem dL_buddle_13 : decode cL_buddle 13 = .ok (.astore 4, 2) := by decide +kernel
theorem dL_buddle_15 : decode cL_buddle 15 = .ok (.iconst 1, 1) := by decide +kernel
theorem dL_buddle_16 : decode cL_buddle 16 = .ok (.ireturn, 1) := by decide +kernel
theorem dL_buddle_17 : decode cL_buddle 17 = .ok (.iconst 0, 1) := by decide +kernel
theorem dL_buddle_18 : decode cL_buddle 18 = .ok (.ireturn, 1) := by decide +kernel
theorem dL_wash_0 : decode cL_wash 0 = .ok (.aload_n 3, 1) := by decide +kernel
theorem dL_wash_1 : decode cL_wash 1 = .ok (.iconst 0, 1) := by decide +kernel
theorem dL_wash_2 : decode cL_wash 2 = .ok (.aload_n 0, 1) := by decide +kernel
theorem dL_wash_3 : decode cL_wash 3 = .ok (.iload_n 1, 1) := by decide +kernel
theorem dL_wash_4 : decode cL_wash 4 = .ok (.iload_n 2, 1) := by decide +kernel
theorem dL_wash_5 : decode cL_wash 5 = .ok (.invokevirtual 55, 3) := by decide +kernel
theorem dL_wash_8 : decode cL_wash 8 = .ok (.i2l, 1) := by decide +kernel
theorem dL_wash_9 : decode cL_wash 9 = .ok (.lastore, 1) := by decide +kernel
theorem dL_wash_10 : decode cL_wash 10 = .ok (.goto 15, 3) := by decide +kernel
theorem dL_wash_13 : decode cL_wash 13 = .ok (.astore 4, 2) := by decide +kernel
theorem dL_wash_15 : decode cL_wash 15 = .ok (.iconst 1, 1) := by decide +kernel
theorem dL_wash_16 : decode cL_wash 16 = .ok (.ireturn, 1) := by decide +kernel
theorem dL_wash_17 : decode cL_wash 17 = .ok (.astore 4, 2) := by decide +kernel
theorem dL_wash_19 : decode cL_wash 19 = .ok (.iconst 2, 1) := by decide +kernel
theorem dL_wash_20 : decode cL_wash 20 = .ok (.ireturn, 1) := by decide +kernel
theorem dL_wash_21 : decode cL_wash 21 = .ok (.astore 4, 2) := by decide +kernel
theorem dL_wash_23 : decode cL_wash 23 = .ok (.iconst 3, 1) := by decide +kernel
theorem dL_wash_24 : decode cL_wash 24 = .ok (.ireturn, 1) := by decide +kernel
theorem dL_wash_25 : decode cL_wash 25 = .ok (.iconst 0, 1) := by decide +kernel
theorem dL_wash_26 : decode cL_wash 26 = .ok (.ireturn, 1) := by decide +kernel
theorem dL_again_0 : decode cL_again 0 = .ok (.aload_n 2, 1) := by decide +kernel
theorem dL_again_1 : decode cL_again 1 = .ok (.iconst 0, 1) := by decide +kernel
theorem dL_again_2 : decode cL_again 2 = .ok (.aload_n 0, 1) := by decide +kernel
theorem dL_again_3 : decode cL_again 3 = .ok (.iload_n 1, 1) := by decide +kernel
theorem dL_again_4 : decode cL_again 4 = .ok (.invokevirtual 58, 3) := by decide +kernel
theorem dL_again_7 : decode cL_again 7 = .ok (.i2l, 1) := by decide +kernel
theorem dL_again_8 : decode cL_again 8 = .ok (.lastore, 1) := by decide +kernel
theorem dL_again_9 : decode cL_again 9 = .ok (.goto 6, 3) := by decide +kernel
theorem dL_again_12 : decode cL_again 12 = .ok (.astore_n 3, 1) := by decide +kernel
theorem dL_again_13 : decode cL_again 13 = .ok (.iconst 1, 1) := by decide +kernel
theorem dL_again_14 : decode cL_again 14 = .ok (.ireturn, 1) := by decide +kernel
theorem dL_again_15 : decode cL_again 15 = .ok (.iconst 0, 1) := by decide +kernel
theorem dL_again_16 : decode cL_again 16 = .ok (.ireturn, 1) := by decide +kernel
theorem dL_smelt_0 : decode cL_smelt 0 = .ok (.aload_n 2, 1) := by decide +kernel
theorem dL_smelt_1 : decode cL_smelt 1 = .ok (.iconst 0, 1) := by decide +kernel
theorem dL_smelt_2 : decode cL_smelt 2 = .ok (.aload_n 0, 1) := by decide +kernel
theorem dL_smelt_3 : decode cL_smelt 3 = .ok (.iload_n 1, 1) := by decide +kernel
theorem dL_smelt_4 : decode cL_smelt 4 = .ok (.invokevirtual 61, 3) := by decide +kernel
theorem dL_smelt_7 : decode cL_smelt 7 = .ok (.i2l, 1) := by decide +kernel
theorem dL_smelt_8 : decode cL_smelt 8 = .ok (.lastore, 1) := by decide +kernel
theorem dL_smelt_9 : decode cL_smelt 9 = .ok (.goto 9, 3) := by decide +kernel
theorem dL_smelt_12 : decode cL_smelt 12 = .ok (.astore_n 3, 1) := by decide +kernel
theorem dL_smelt_13 : decode cL_smelt 13 = .ok (.iconst 1, 1) := by decide +kernel
theorem dL_smelt_14 : decode cL_smelt 14 = .ok (.ireturn, 1) := by decide +kernel
theorem dL_smelt_15 : decode cL_smelt 15 = .ok (.astore_n 3, 1) := by decide +kernel
theorem dL_smelt_16 : decode cL_smelt 16 = .ok (.iconst 2, 1) := by decide +kernel
theorem dL_smelt_17 : decode cL_smelt 17 = .ok (.ireturn, 1) := by decide +kernel
theorem dL_smelt_18 : decode cL_smelt 18 = .ok (.iconst 0, 1) := by decide +kernel
theorem dL_smelt_19 : decode cL_smelt 19 = .ok (.ireturn, 1) := by decide +kernel
theorem dL_foresee_0 : decode cL_foresee 0 = .ok (.aload_n 3, 1) := by decide +kernel
theorem dL_foresee_1 : decode cL_foresee 1 = .ok (.iconst 0, 1) := by decide +kernel
theorem dL_foresee_2 : decode cL_foresee 2 = .ok (.aload_n 0, 1) := by decide +kernel
theorem dL_foresee_3 : decode cL_foresee 3 = .ok (.iload_n 1, 1) := by decide +kernel
theorem dL_foresee_4 : decode cL_foresee 4 = .ok (.iload_n 2, 1) := by decide +kernel
theorem dL_foresee_5 : decode cL_foresee 5 = .ok (.invokevirtual 64, 3) := by decide +kernel
theorem dL_foresee_8 : decode cL_foresee 8 = .ok (.i2l, 1) := by decide +kernel
theorem dL_foresee_9 : decode cL_foresee 9 = .ok (.lastore, 1) := by decide +kernel
theorem dL_foresee_10 : decode cL_foresee 10 = .ok (.goto 15, 3) := by decide +kernel
theorem dL_foresee_13 : decode cL_foresee 13 = .ok (.astore 4, 2) := by decide +kernel
theorem dL_foresee_15 : decode cL_foresee 15 = .ok (.iconst 1, 1) := by decide +kernel
theorem dL_foresee_16 : decode cL_foresee 16 = .ok (.ireturn, 1) := by decide +kernel
theorem dL_foresee_17 : decode cL_foresee 17 = .ok (.astore 4, 2) := by decide +kernel
theorem dL_foresee_19 : decode cL_foresee 19 = .ok (.iconst 2, 1) := by decide +kernel
theorem dL_foresee_20 : decode cL_foresee 20 = .ok (.ireturn, 1) := by decide +kernel
theorem dL_foresee_21 : decode cL_foresee 21 = .ok (.astore 4, 2) := by decide +kernel
theorem dL_foresee_23 : decode cL_foresee 23 = .ok (.iconst 3, 1) := by decide +kernel
theorem dL_foresee_24 : decode cL_foresee 24 = .ok (.ireturn, 1) := by decide +kernel
theorem dL_foresee_25 : decode cL_foresee 25 = .ok (.iconst 0, 1) := by decide +kernel
theorem dL_foresee_26 : decode cL_foresee 26 = .ok (.ireturn, 1) := by decide +kernel
theorem dL_advise_0 : decode cL_advise 0 = .ok (.aload_n 2, 1) := by decide +kernel
theorem dL_advise_1 : decode cL_advise 1 = .ok (.iconst 0, 1) := by decide +kernel
theorem dL_advise_2 : decode cL_advise 2 = .ok (.aload_n 0, 1) := by decide +kernel
theorem dL_advise_3 : decode cL_advise 3 = .ok (.iload_n 1, 1) := by decide +kernel
theorem dL_advise_4 : decode cL_advise 4 = .ok (.invokevirtual 67, 3) := by decide +kernel
theorem dL_advise_7 : decode cL_advise 7 = .ok (.i2l, 1) := by decide +kernel
theorem dL_advise_8 : decode cL_advise 8 = .ok (.lastore, 1) := by decide +kernel
theorem dL_advise_9 : decode cL_advise 9 = .ok (.goto 9, 3) := by decide +kernel
theorem dL_advise_12 : decode cL_advise 12 = .ok (.astore_n 3, 1) := by decide +kernel
theorem dL_advise_13 : decode cL_advise 13 = .ok (.iconst 1, 1) := by decide +kernel
theorem dL_advise_14 : decode cL_advise 14 = .ok (.ireturn, 1) := by decide +kernel
theorem dL_advise_15 : decode cL_advise 15 = .ok (.astore_n 3, 1) := by decide +kernel
theorem dL_advise_16 : decode cL_advise 16 = .ok (.iconst 2, 1) := by decide +kernel
theorem dL_advise_17 : decode cL_advise 17 = .ok (.ireturn, 1) := by decide +kernel
theorem dL_advise_18 : decode cL_advise 18 = .ok (.iconst 0, 1) := by decide +kernel
theorem dL_advise_19 : decode cL_advise 19 = .ok (.ireturn, 1) := by decide +kernel
theorem dL_bestWater_0 : decode cL_bestWater 0 = .ok (.aload_n 3, 1) := by decide +kernel
theorem dL_bestWater_1 : decode cL_bestWater 1 = .ok (.iconst 0, 1) := by decide +kernel
theorem dL_bestWater_2 : decode cL_bestWater 2 = .ok (.aload_n 0, 1) := by decide +kernel
theorem dL_bestWater_3 : decode cL_bestWater 3 = .ok (.iload_n 1, 1) := by decide +kernel
theorem dL_bestWater_4 : decode cL_bestWater 4 = .ok (.iload_n 2, 1) := by decide +kernel
theorem dL_bestWater_5 : decode cL_bestWater 5 = .ok (.invokevirtual 70, 3) := by decide +kernel
theorem dL_bestWater_8 : decode cL_bestWater 8 = .ok (.i2l, 1) := by decide +kernel
theorem dL_bestWater_9 : decode cL_bestWater 9 = .ok (.lastore, 1) := by decide +kernel
theorem dL_bestWater_10 : decode cL_bestWater 10 = .ok (.goto 11, 3) := by decide +kernel
theorem dL_bestWater_13 : decode cL_bestWater 13 = .ok (.astore 4, 2) := by decide +kernel
theorem dL_bestWater_15 : decode cL_bestWater 15 = .ok (.iconst 1, 1) := by decide +kernel
theorem dL_bestWater_16 : decode cL_bestWater 16 = .ok (.ireturn, 1) := by decide +kernel
theorem dL_bestWater_17 : decode cL_bestWater 17 = .ok (.astore 4, 2) := by decide +kernel
theorem dL_bestWater_19 : decode cL_bestWater 19 = .ok (.iconst 2, 1) := by decide +kernel
theorem dL_bestWater_20 : decode cL_bestWater 20 = .ok (.ireturn, 1) := by decide +kernel
theorem dL_bestWater_21 : decode cL_bestWater 21 = .ok (.iconst 0, 1) := by decide +kernel
theorem dL_bestWater_22 : decode cL_bestWater 22 = .ok (.ireturn, 1) := by decide +kernel
end
section
theorem dL_law_0 : decode cL_law 0 = .ok (.new 8, 3) := by decide +kernel
theorem dL_law_3 : decode cL_law 3 = .ok (.dup, 1) := by decide +kernel
theorem dL_law_4 : decode cL_law 4 = .ok (.invokespecial 73, 3) := by decide +kernel
theorem dL_law_7 : decode cL_law 7 = .ok (.astore_n 1, 1) := by decide +kernel
theorem dL_law_8 : decode cL_law 8 = .ok (.new 74, 3) := by decide +kernel
theorem dL_law_11 : decode cL_law 11 = .ok (.dup, 1) := by decide +kernel
theorem dL_law_12 : decode cL_law 12 = .ok (.invokespecial 76, 3) := by decide +kernel
theorem dL_law_15 : decode cL_law 15 = .ok (.astore_n 2, 1) := by decide +kernel
theorem dL_law_16 : decode cL_law 16 = .ok (.iconst 1, 1) := by decide +kernel
theorem dL_law_17 : decode cL_law 17 = .ok (.newarray .long, 2) := by decide +kernel
theorem dL_law_19 : decode cL_law 19 = .ok (.astore_n 3, 1) := by decide +kernel
theorem dL_law_20 : decode cL_law 20 = .ok (.iconst 0, 1) := by decide +kernel
theorem dL_law_21 : decode cL_law 21 = .ok (.istore 4, 2) := by decide +kernel
theorem dL_law_23 : decode cL_law 23 = .ok (.iload 4, 2) := by decide +kernel
theorem dL_law_25 : decode cL_law 25 = .ok (.aload_n 0, 1) := by decide +kernel
theorem dL_law_26 : decode cL_law 26 = .ok (.arraylength, 1) := by decide +kernel
theorem dL_law_27 : decode cL_law 27 = .ok (.iconst 4, 1) := by decide +kernel
theorem dL_law_28 : decode cL_law 28 = .ok (.isub, 1) := by decide +kernel
theorem dL_law_29 : decode cL_law 29 = .ok (.if_icmp .gt 1328, 3) := by decide +kernel
theorem dL_law_32 : decode cL_law 32 = .ok (.aload_n 0, 1) := by decide +kernel
theorem dL_law_33 : decode cL_law 33 = .ok (.iload 4, 2) := by decide +kernel
theorem dL_law_35 : decode cL_law 35 = .ok (.iaload, 1) := by decide +kernel
theorem dL_law_36 : decode cL_law 36 = .ok (.bipush 31, 2) := by decide +kernel
theorem dL_law_38 : decode cL_law 38 = .ok (.iand, 1) := by decide +kernel
theorem dL_law_39 : decode cL_law 39 = .ok (.tableswitch 1312 0 19 #[93, 161, 217, 261, 341, 409, 489, 557, 637, 705, 761, 817, 885, 953, 1009, 1065, 1133, 1189, 1257, 1298], 93) := by decide +kernel
theorem dL_law_132 : decode cL_law 132 = .ok (.aload_n 1, 1) := by decide +kernel
theorem dL_law_133 : decode cL_law 133 = .ok (.aload_n 0, 1) := by decide +kernel
theorem dL_law_134 : decode cL_law 134 = .ok (.iload 4, 2) := by decide +kernel
theorem dL_law_136 : decode cL_law 136 = .ok (.iconst 1, 1) := by decide +kernel
theorem dL_law_137 : decode cL_law 137 = .ok (.iadd, 1) := by decide +kernel
theorem dL_law_138 : decode cL_law 138 = .ok (.iaload, 1) := by decide +kernel
theorem dL_law_139 : decode cL_law 139 = .ok (.aload_n 0, 1) := by decide +kernel
theorem dL_law_140 : decode cL_law 140 = .ok (.iload 4, 2) := by decide +kernel
theorem dL_law_142 : decode cL_law 142 = .ok (.iconst 2, 1) := by decide +kernel
theorem dL_law_143 : decode cL_law 143 = .ok (.iadd, 1) := by decide +kernel
theorem dL_law_144 : decode cL_law 144 = .ok (.iaload, 1) := by decide +kernel
theorem dL_law_145 : decode cL_law 145 = .ok (.aload_n 3, 1) := by decide +kernel
theorem dL_law_146 : decode cL_law 146 = .ok (.invokestatic 77, 3) := by decide +kernel
theorem dL_law_149 : decode cL_law 149 = .ok (.istore 5, 2) := by decide +kernel
theorem dL_law_151 : decode cL_law 151 = .ok (.aload_n 2, 1) := by decide +kernel
theorem dL_law_152 : decode cL_law 152 = .ok (.aload_n 0, 1) := by decide +kernel
theorem dL_law_153 : decode cL_law 153 = .ok (.iload 4, 2) := by decide +kernel
theorem dL_law_155 : decode cL_law 155 = .ok (.iconst 1, 1) := by decide +kernel
theorem dL_law_156 : decode cL_law 156 = .ok (.iadd, 1) := by decide +kernel
theorem dL_law_157 : decode cL_law 157 = .ok (.iaload, 1) := by decide +kernel
theorem dL_law_158 : decode cL_law 158 = .ok (.aload_n 0, 1) := by decide +kernel
theorem dL_law_159 : decode cL_law 159 = .ok (.iload 4, 2) := by decide +kernel
theorem dL_law_161 : decode cL_law 161 = .ok (.iconst 2, 1) := by decide +kernel
theorem dL_law_162 : decode cL_law 162 = .ok (.iadd, 1) := by decide +kernel
theorem dL_law_163 : decode cL_law 163 = .ok (.iaload, 1) := by decide +kernel
theorem dL_law_164 : decode cL_law 164 = .ok (.invokevirtual 82, 3) := by decide +kernel
theorem dL_law_167 : decode cL_law 167 = .ok (.istore 6, 2) := by decide +kernel
theorem dL_law_169 : decode cL_law 169 = .ok (.aload_n 2, 1) := by decide +kernel
theorem dL_law_170 : decode cL_law 170 = .ok (.invokevirtual 83, 3) := by decide +kernel
theorem dL_law_173 : decode cL_law 173 = .ok (.iload 5, 2) := by decide +kernel
theorem dL_law_175 : decode cL_law 175 = .ok (.if_icmp .eq 5, 3) := by decide +kernel
theorem dL_law_178 : decode cL_law 178 = .ok (.iconst 0, 1) := by decide +kernel
theorem dL_law_179 : decode cL_law 179 = .ok (.ireturn, 1) := by decide +kernel
theorem dL_law_180 : decode cL_law 180 = .ok (.iload 5, 2) := by decide +kernel
theorem dL_law_182 : decode cL_law 182 = .ok (.ifCond .ne 15, 3) := by decide +kernel
theorem dL_law_185 : decode cL_law 185 = .ok (.aload_n 3, 1) := by decide +kernel
theorem dL_law_186 : decode cL_law 186 = .ok (.iconst 0, 1) := by decide +kernel
theorem dL_law_187 : decode cL_law 187 = .ok (.laload, 1) := by decide +kernel
theorem dL_law_188 : decode cL_law 188 = .ok (.iload 6, 2) := by decide +kernel
theorem dL_law_190 : decode cL_law 190 = .ok (.i2l, 1) := by decide +kernel
theorem dL_law_191 : decode cL_law 191 = .ok (.lcmp, 1) := by decide +kernel
theorem dL_law_192 : decode cL_law 192 = .ok (.ifCond .eq 5, 3) := by decide +kernel
theorem dL_law_195 : decode cL_law 195 = .ok (.iconst 0, 1) := by decide +kernel
theorem dL_law_196 : decode cL_law 196 = .ok (.ireturn, 1) := by decide +kernel
theorem dL_law_197 : decode cL_law 197 = .ok (.goto 1154, 3) := by decide +kernel
theorem dL_law_200 : decode cL_law 200 = .ok (.aload_n 1, 1) := by decide +kernel
theorem dL_law_201 : decode cL_law 201 = .ok (.aload_n 0, 1) := by decide +kernel
theorem dL_law_202 : decode cL_law 202 = .ok (.iload 4, 2) := by decide +kernel
theorem dL_law_204 : decode cL_law 204 = .ok (.iconst 1, 1) := by decide +kernel
theorem dL_law_205 : decode cL_law 205 = .ok (.iadd, 1) := by decide +kernel
theorem dL_law_206 : decode cL_law 206 = .ok (.iaload, 1) := by decide +kernel
theorem dL_law_207 : decode cL_law 207 = .ok (.aload_n 3, 1) := by decide +kernel
theorem dL_law_208 : decode cL_law 208 = .ok (.invokestatic 86, 3) := by decide +kernel
theorem dL_law_211 : decode cL_law 211 = .ok (.istore 5, 2) := by decide +kernel
theorem dL_law_213 : decode cL_law 213 = .ok (.aload_n 2, 1) := by decide +kernel
theorem dL_law_214 : decode cL_law 214 = .ok (.aload_n 0, 1) := by decide +kernel
theorem dL_law_215 : decode cL_law 215 = .ok (.iload 4, 2) := by decide +kernel
theorem dL_law_217 : decode cL_law 217 = .ok (.iconst 1, 1) := by decide +kernel
theorem dL_law_218 : decode cL_law 218 = .ok (.iadd, 1) := by decide +kernel
theorem dL_law_219 : decode cL_law 219 = .ok (.iaload, 1) := by decide +kernel
theorem dL_law_220 : decode cL_law 220 = .ok (.invokevirtual 89, 3) := by decide +kernel
theorem dL_law_223 : decode cL_law 223 = .ok (.istore 6, 2) := by decide +kernel
theorem dL_law_225 : decode cL_law 225 = .ok (.aload_n 2, 1) := by decide +kernel
theorem dL_law_226 : decode cL_law 226 = .ok (.invokevirtual 83, 3) := by decide +kernel
theorem dL_law_229 : decode cL_law 229 = .ok (.iload 5, 2) := by decide +kernel
theorem dL_law_231 : decode cL_law 231 = .ok (.if_icmp .eq 5, 3) := by decide +kernel
theorem dL_law_234 : decode cL_law 234 = .ok (.iconst 0, 1) := by decide +kernel
theorem dL_law_235 : decode cL_law 235 = .ok (.ireturn, 1) := by decide +kernel
theorem dL_law_236 : decode cL_law 236 = .ok (.iload 5, 2) := by decide +kernel
theorem dL_law_238 : decode cL_law 238 = .ok (.ifCond .ne 15, 3) := by decide +kernel
theorem dL_law_241 : decode cL_law 241 = .ok (.aload_n 3, 1) := by decide +kernel
theorem dL_law_242 : decode cL_law 242 = .ok (.iconst 0, 1) := by decide +kernel
theorem dL_law_243 : decode cL_law 243 = .ok (.laload, 1) := by decide +kernel
theorem dL_law_244 : decode cL_law 244 = .ok (.iload 6, 2) := by decide +kernel
theorem dL_law_246 : decode cL_law 246 = .ok (.i2l, 1) := by decide +kernel
theorem dL_law_247 : decode cL_law 247 = .ok (.lcmp, 1) := by decide +kernel
theorem dL_law_248 : decode cL_law 248 = .ok (.ifCond .eq 5, 3) := by decide +kernel
theorem dL_law_251 : decode cL_law 251 = .ok (.iconst 0, 1) := by decide +kernel
theorem dL_law_252 : decode cL_law 252 = .ok (.ireturn, 1) := by decide +kernel
theorem dL_law_253 : decode cL_law 253 = .ok (.goto 1098, 3) := by decide +kernel
theorem dL_law_256 : decode cL_law 256 = .ok (.aload_n 1, 1) := by decide +kernel
theorem dL_law_257 : decode cL_law 257 = .ok (.aload_n 3, 1) := by decide +kernel
theorem dL_law_258 : decode cL_law 258 = .ok (.invokestatic 90, 3) := by decide +kernel
theorem dL_law_261 : decode cL_law 261 = .ok (.istore 5, 2) := by decide +kernel
theorem dL_law_263 : decode cL_law 263 = .ok (.aload_n 2, 1) := by decide +kernel
theorem dL_law_264 : decode cL_law 264 = .ok (.invokevirtual 93, 3) := by decide +kernel
theorem dL_law_267 : decode cL_law 267 = .ok (.istore 6, 2) := by decide +kernel
theorem dL_law_269 : decode cL_law 269 = .ok (.aload_n 2, 1) := by decide +kernel
theorem dL_law_270 : decode cL_law 270 = .ok (.invokevirtual 83, 3) := by decide +kernel
theorem dL_law_273 : decode cL_law 273 = .ok (.iload 5, 2) := by decide +kernel
theorem dL_law_275 : decode cL_law 275 = .ok (.if_icmp .eq 5, 3) := by decide +kernel
theorem dL_law_278 : decode cL_law 278 = .ok (.iconst 0, 1) := by decide +kernel
theorem dL_law_279 : decode cL_law 279 = .ok (.ireturn, 1) := by decide +kernel
theorem dL_law_280 : decode cL_law 280 = .ok (.iload 5, 2) := by decide +kernel
theorem dL_law_282 : decode cL_law 282 = .ok (.ifCond .ne 15, 3) := by decide +kernel
theorem dL_law_285 : decode cL_law 285 = .ok (.aload_n 3, 1) := by decide +kernel
theorem dL_law_286 : decode cL_law 286 = .ok (.iconst 0, 1) := by decide +kernel
theorem dL_law_287 : decode cL_law 287 = .ok (.laload, 1) := by decide +kernel
theorem dL_law_288 : decode cL_law 288 = .ok (.iload 6, 2) := by decide +kernel
theorem dL_law_290 : decode cL_law 290 = .ok (.i2l, 1) := by decide +kernel
theorem dL_law_291 : decode cL_law 291 = .ok (.lcmp, 1) := by decide +kernel
theorem dL_law_292 : decode cL_law 292 = .ok (.ifCond .eq 5, 3) := by decide +kernel
theorem dL_law_295 : decode cL_law 295 = .ok (.iconst 0, 1) := by decide +kernel
theorem dL_law_296 : decode cL_law 296 = .ok (.ireturn, 1) := by decide +kernel
theorem dL_law_297 : decode cL_law 297 = .ok (.goto 1054, 3) := by decide +kernel
theorem dL_law_300 : decode cL_law 300 = .ok (.aload_n 1, 1) := by decide +kernel
theorem dL_law_301 : decode cL_law 301 = .ok (.aload_n 0, 1) := by decide +kernel
theorem dL_law_302 : decode cL_law 302 = .ok (.iload 4, 2) := by decide +kernel
theorem dL_law_304 : decode cL_law 304 = .ok (.iconst 1, 1) := by decide +kernel
theorem dL_law_305 : decode cL_law 305 = .ok (.iadd, 1) := by decide +kernel
theorem dL_law_306 : decode cL_law 306 = .ok (.iaload, 1) := by decide +kernel
theorem dL_law_307 : decode cL_law 307 = .ok (.aload_n 0, 1) := by decide +kernel
theorem dL_law_308 : decode cL_law 308 = .ok (.iload 4, 2) := by decide +kernel
theorem dL_law_310 : decode cL_law 310 = .ok (.iconst 2, 1) := by decide +kernel
theorem dL_law_311 : decode cL_law 311 = .ok (.iadd, 1) := by decide +kernel
theorem dL_law_312 : decode cL_law 312 = .ok (.iaload, 1) := by decide +kernel
theorem dL_law_313 : decode cL_law 313 = .ok (.aload_n 0, 1) := by decide +kernel
theorem dL_law_314 : decode cL_law 314 = .ok (.iload 4, 2) := by decide +kernel
theorem dL_law_316 : decode cL_law 316 = .ok (.iconst 3, 1) := by decide +kernel
theorem dL_law_317 : decode cL_law 317 = .ok (.iadd, 1) := by decide +kernel
theorem dL_law_318 : decode cL_law 318 = .ok (.iaload, 1) := by decide +kernel
theorem dL_law_319 : decode cL_law 319 = .ok (.aload_n 3, 1) := by decide +kernel
theorem dL_law_320 : decode cL_law 320 = .ok (.invokestatic 94, 3) := by decide +kernel
theorem dL_law_323 : decode cL_law 323 = .ok (.istore 5, 2) := by decide +kernel
theorem dL_law_325 : decode cL_law 325 = .ok (.aload_n 2, 1) := by decide +kernel
theorem dL_law_326 : decode cL_law 326 = .ok (.aload_n 0, 1) := by decide +kernel
theorem dL_law_327 : decode cL_law 327 = .ok (.iload 4, 2) := by decide +kernel
theorem dL_law_329 : decode cL_law 329 = .ok (.iconst 1, 1) := by decide +kernel
theorem dL_law_330 : decode cL_law 330 = .ok (.iadd, 1) := by decide +kernel
theorem dL_law_331 : decode cL_law 331 = .ok (.iaload, 1) := by decide +kernel
theorem dL_law_332 : decode cL_law 332 = .ok (.aload_n 0, 1) := by decide +kernel
theorem dL_law_333 : decode cL_law 333 = .ok (.iload 4, 2) := by decide +kernel
theorem dL_law_335 : decode cL_law 335 = .ok (.iconst 2, 1) := by decide +kernel
theorem dL_law_336 : decode cL_law 336 = .ok (.iadd, 1) := by decide +kernel
theorem dL_law_337 : decode cL_law 337 = .ok (.iaload, 1) := by decide +kernel
theorem dL_law_338 : decode cL_law 338 = .ok (.aload_n 0, 1) := by decide +kernel
theorem dL_law_339 : decode cL_law 339 = .ok (.iload 4, 2) := by decide +kernel
theorem dL_law_341 : decode cL_law 341 = .ok (.iconst 3, 1) := by decide +kernel
theorem dL_law_342 : decode cL_law 342 = .ok (.iadd, 1) := by decide +kernel
theorem dL_law_343 : decode cL_law 343 = .ok (.iaload, 1) := by decide +kernel
theorem dL_law_344 : decode cL_law 344 = .ok (.invokevirtual 97, 3) := by decide +kernel
theorem dL_law_347 : decode cL_law 347 = .ok (.istore 6, 2) := by decide +kernel
theorem dL_law_349 : decode cL_law 349 = .ok (.aload_n 2, 1) := by decide +kernel
theorem dL_law_350 : decode cL_law 350 = .ok (.invokevirtual 83, 3) := by decide +kernel
theorem dL_law_353 : decode cL_law 353 = .ok (.iload 5, 2) := by decide +kernel
theorem dL_law_355 : decode cL_law 355 = .ok (.if_icmp .eq 5, 3) := by decide +kernel
theorem dL_law_358 : decode cL_law 358 = .ok (.iconst 0, 1) := by decide +kernel
theorem dL_law_359 : decode cL_law 359 = .ok (.ireturn, 1) := by decide +kernel
theorem dL_law_360 : decode cL_law 360 = .ok (.iload 5, 2) := by decide +kernel
theorem dL_law_362 : decode cL_law 362 = .ok (.ifCond .ne 15, 3) := by decide +kernel
theorem dL_law_365 : decode cL_law 365 = .ok (.aload_n 3, 1) := by decide +kernel
theorem dL_law_366 : decode cL_law 366 = .ok (.iconst 0, 1) := by decide +kernel
theorem dL_law_367 : decode cL_law 367 = .ok (.laload, 1) := by decide +kernel
theorem dL_law_368 : decode cL_law 368 = .ok (.iload 6, 2) := by decide +kernel
theorem dL_law_370 : decode cL_law 370 = .ok (.i2l, 1) := by decide +kernel
theorem dL_law_371 : decode cL_law 371 = .ok (.lcmp, 1) := by decide +kernel
theorem dL_law_372 : decode cL_law 372 = .ok (.ifCond .eq 5, 3) := by decide +kernel
theorem dL_law_375 : decode cL_law 375 = .ok (.iconst 0, 1) := by decide +kernel
theorem dL_law_376 : decode cL_law 376 = .ok (.ireturn, 1) := by decide +kernel
theorem dL_law_377 : decode cL_law 377 = .ok (.goto 974, 3) := by decide +kernel
theorem dL_law_380 : decode cL_law 380 = .ok (.aload_n 1, 1) := by decide +kernel
theorem dL_law_381 : decode cL_law 381 = .ok (.aload_n 0, 1) := by decide +kernel
theorem dL_law_382 : decode cL_law 382 = .ok (.iload 4, 2) := by decide +kernel
theorem dL_law_384 : decode cL_law 384 = .ok (.iconst 1, 1) := by decide +kernel
theorem dL_law_385 : decode cL_law 385 = .ok (.iadd, 1) := by decide +kernel
theorem dL_law_386 : decode cL_law 386 = .ok (.iaload, 1) := by decide +kernel
theorem dL_law_387 : decode cL_law 387 = .ok (.aload_n 0, 1) := by decide +kernel
theorem dL_law_388 : decode cL_law 388 = .ok (.iload 4, 2) := by decide +kernel
theorem dL_law_390 : decode cL_law 390 = .ok (.iconst 2, 1) := by decide +kernel
theorem dL_law_391 : decode cL_law 391 = .ok (.iadd, 1) := by decide +kernel
theorem dL_law_392 : decode cL_law 392 = .ok (.iaload, 1) := by decide +kernel
theorem dL_law_393 : decode cL_law 393 = .ok (.aload_n 3, 1) := by decide +kernel
theorem dL_law_394 : decode cL_law 394 = .ok (.invokestatic 98, 3) := by decide +kernel
theorem dL_law_397 : decode cL_law 397 = .ok (.istore 5, 2) := by decide +kernel
theorem dL_law_399 : decode cL_law 399 = .ok (.aload_n 2, 1) := by decide +kernel
theorem dL_law_400 : decode cL_law 400 = .ok (.aload_n 0, 1) := by decide +kernel
theorem dL_law_401 : decode cL_law 401 = .ok (.iload 4, 2) := by decide +kernel
theorem dL_law_403 : decode cL_law 403 = .ok (.iconst 1, 1) := by decide +kernel
theorem dL_law_404 : decode cL_law 404 = .ok (.iadd, 1) := by decide +kernel
theorem dL_law_405 : decode cL_law 405 = .ok (.iaload, 1) := by decide +kernel
theorem dL_law_406 : decode cL_law 406 = .ok (.aload_n 0, 1) := by decide +kernel
theorem dL_law_407 : decode cL_law 407 = .ok (.iload 4, 2) := by decide +kernel
theorem dL_law_409 : decode cL_law 409 = .ok (.iconst 2, 1) := by decide +kernel
theorem dL_law_410 : decode cL_law 410 = .ok (.iadd, 1) := by decide +kernel
theorem dL_law_411 : decode cL_law 411 = .ok (.iaload, 1) := by decide +kernel
theorem dL_law_412 : decode cL_law 412 = .ok (.invokevirtual 100, 3) := by decide +kernel
theorem dL_law_415 : decode cL_law 415 = .ok (.istore 6, 2) := by decide +kernel
theorem dL_law_417 : decode cL_law 417 = .ok (.aload_n 2, 1) := by decide +kernel
theorem dL_law_418 : decode cL_law 418 = .ok (.invokevirtual 83, 3) := by decide +kernel
theorem dL_law_421 : decode cL_law 421 = .ok (.iload 5, 2) := by decide +kernel
theorem dL_law_423 : decode cL_law 423 = .ok (.if_icmp .eq 5, 3) := by decide +kernel
theorem dL_law_426 : decode cL_law 426 = .ok (.iconst 0, 1) := by decide +kernel
theorem dL_law_427 : decode cL_law 427 = .ok (.ireturn, 1) := by decide +kernel
theorem dL_law_428 : decode cL_law 428 = .ok (.iload 5, 2) := by decide +kernel
theorem dL_law_430 : decode cL_law 430 = .ok (.ifCond .ne 15, 3) := by decide +kernel
theorem dL_law_433 : decode cL_law 433 = .ok (.aload_n 3, 1) := by decide +kernel
theorem dL_law_434 : decode cL_law 434 = .ok (.iconst 0, 1) := by decide +kernel
theorem dL_law_435 : decode cL_law 435 = .ok (.laload, 1) := by decide +kernel
theorem dL_law_436 : decode cL_law 436 = .ok (.iload 6, 2) := by decide +kernel
theorem dL_law_438 : decode cL_law 438 = .ok (.i2l, 1) := by decide +kernel
theorem dL_law_439 : decode cL_law 439 = .ok (.lcmp, 1) := by decide +kernel
theorem dL_law_440 : decode cL_law 440 = .ok (.ifCond .eq 5, 3) := by decide +kernel
theorem dL_law_443 : decode cL_law 443 = .ok (.iconst 0, 1) := by decide +kernel
theorem dL_law_444 : decode cL_law 444 = .ok (.ireturn, 1) := by decide +kernel
theorem dL_law_445 : decode cL_law 445 = .ok (.goto 906, 3) := by decide +kernel
theorem dL_law_448 : decode cL_law 448 = .ok (.aload_n 1, 1) := by decide +kernel
theorem dL_law_449 : decode cL_law 449 = .ok (.aload_n 0, 1) := by decide +kernel
theorem dL_law_450 : decode cL_law 450 = .ok (.iload 4, 2) := by decide +kernel
theorem dL_law_452 : decode cL_law 452 = .ok (.iconst 1, 1) := by decide +kernel
theorem dL_law_453 : decode cL_law 453 = .ok (.iadd, 1) := by decide +kernel
theorem dL_law_454 : decode cL_law 454 = .ok (.iaload, 1) := by decide +kernel
theorem dL_law_455 : decode cL_law 455 = .ok (.aload_n 0, 1) := by decide +kernel
theorem dL_law_456 : decode cL_law 456 = .ok (.iload 4, 2) := by decide +kernel
theorem dL_law_458 : decode cL_law 458 = .ok (.iconst 2, 1) := by decide +kernel
theorem dL_law_459 : decode cL_law 459 = .ok (.iadd, 1) := by decide +kernel
theorem dL_law_460 : decode cL_law 460 = .ok (.iaload, 1) := by decide +kernel
theorem dL_law_461 : decode cL_law 461 = .ok (.aload_n 0, 1) := by decide +kernel
theorem dL_law_462 : decode cL_law 462 = .ok (.iload 4, 2) := by decide +kernel
theorem dL_law_464 : decode cL_law 464 = .ok (.iconst 3, 1) := by decide +kernel
theorem dL_law_465 : decode cL_law 465 = .ok (.iadd, 1) := by decide +kernel
theorem dL_law_466 : decode cL_law 466 = .ok (.iaload, 1) := by decide +kernel
theorem dL_law_467 : decode cL_law 467 = .ok (.aload_n 3, 1) := by decide +kernel
theorem dL_law_468 : decode cL_law 468 = .ok (.invokestatic 101, 3) := by decide +kernel
theorem dL_law_471 : decode cL_law 471 = .ok (.istore 5, 2) := by decide +kernel
theorem dL_law_473 : decode cL_law 473 = .ok (.aload_n 2, 1) := by decide +kernel
theorem dL_law_474 : decode cL_law 474 = .ok (.aload_n 0, 1) := by decide +kernel
theorem dL_law_475 : decode cL_law 475 = .ok (.iload 4, 2) := by decide +kernel
theorem dL_law_477 : decode cL_law 477 = .ok (.iconst 1, 1) := by decide +kernel
theorem dL_law_478 : decode cL_law 478 = .ok (.iadd, 1) := by decide +kernel
theorem dL_law_479 : decode cL_law 479 = .ok (.iaload, 1) := by decide +kernel
theorem dL_law_480 : decode cL_law 480 = .ok (.aload_n 0, 1) := by decide +kernel
theorem dL_law_481 : decode cL_law 481 = .ok (.iload 4, 2) := by decide +kernel
theorem dL_law_483 : decode cL_law 483 = .ok (.iconst 2, 1) := by decide +kernel
theorem dL_law_484 : decode cL_law 484 = .ok (.iadd, 1) := by decide +kernel
theorem dL_law_485 : decode cL_law 485 = .ok (.iaload, 1) := by decide +kernel
theorem dL_law_486 : decode cL_law 486 = .ok (.aload_n 0, 1) := by decide +kernel
theorem dL_law_487 : decode cL_law 487 = .ok (.iload 4, 2) := by decide +kernel
theorem dL_law_489 : decode cL_law 489 = .ok (.iconst 3, 1) := by decide +kernel
theorem dL_law_490 : decode cL_law 490 = .ok (.iadd, 1) := by decide +kernel
theorem dL_law_491 : decode cL_law 491 = .ok (.iaload, 1) := by decide +kernel
theorem dL_law_492 : decode cL_law 492 = .ok (.invokevirtual 103, 3) := by decide +kernel
theorem dL_law_495 : decode cL_law 495 = .ok (.istore 6, 2) := by decide +kernel
theorem dL_law_497 : decode cL_law 497 = .ok (.aload_n 2, 1) := by decide +kernel
theorem dL_law_498 : decode cL_law 498 = .ok (.invokevirtual 83, 3) := by decide +kernel
theorem dL_law_501 : decode cL_law 501 = .ok (.iload 5, 2) := by decide +kernel
theorem dL_law_503 : decode cL_law 503 = .ok (.if_icmp .eq 5, 3) := by decide +kernel
theorem dL_law_506 : decode cL_law 506 = .ok (.iconst 0, 1) := by decide +kernel
theorem dL_law_507 : decode cL_law 507 = .ok (.ireturn, 1) := by decide +kernel
theorem dL_law_508 : decode cL_law 508 = .ok (.iload 5, 2) := by decide +kernel
theorem dL_law_510 : decode cL_law 510 = .ok (.ifCond .ne 15, 3) := by decide +kernel
theorem dL_law_513 : decode cL_law 513 = .ok (.aload_n 3, 1) := by decide +kernel
theorem dL_law_514 : decode cL_law 514 = .ok (.iconst 0, 1) := by decide +kernel
theorem dL_law_515 : decode cL_law 515 = .ok (.laload, 1) := by decide +kernel
theorem dL_law_516 : decode cL_law 516 = .ok (.iload 6, 2) := by decide +kernel
theorem dL_law_518 : decode cL_law 518 = .ok (.i2l, 1) := by decide +kernel
theorem dL_law_519 : decode cL_law 519 = .ok (.lcmp, 1) := by decide +kernel
theorem dL_law_520 : decode cL_law 520 = .ok (.ifCond .eq 5, 3) := by decide +kernel
theorem dL_law_523 : decode cL_law 523 = .ok (.iconst 0, 1) := by decide +kernel
theorem dL_law_524 : decode cL_law 524 = .ok (.ireturn, 1) := by decide +kernel
theorem dL_law_525 : decode cL_law 525 = .ok (.goto 826, 3) := by decide +kernel
theorem dL_law_528 : decode cL_law 528 = .ok (.aload_n 1, 1) := by decide +kernel
theorem dL_law_529 : decode cL_law 529 = .ok (.aload_n 0, 1) := by decide +kernel
theorem dL_law_530 : decode cL_law 530 = .ok (.iload 4, 2) := by decide +kernel
theorem dL_law_532 : decode cL_law 532 = .ok (.iconst 1, 1) := by decide +kernel
theorem dL_law_533 : decode cL_law 533 = .ok (.iadd, 1) := by decide +kernel
theorem dL_law_534 : decode cL_law 534 = .ok (.iaload, 1) := by decide +kernel
theorem dL_law_535 : decode cL_law 535 = .ok (.aload_n 0, 1) := by decide +kernel
theorem dL_law_536 : decode cL_law 536 = .ok (.iload 4, 2) := by decide +kernel
theorem dL_law_538 : decode cL_law 538 = .ok (.iconst 2, 1) := by decide +kernel
theorem dL_law_539 : decode cL_law 539 = .ok (.iadd, 1) := by decide +kernel
theorem dL_law_540 : decode cL_law 540 = .ok (.iaload, 1) := by decide +kernel
theorem dL_law_541 : decode cL_law 541 = .ok (.aload_n 3, 1) := by decide +kernel
theorem dL_law_542 : decode cL_law 542 = .ok (.invokestatic 104, 3) := by decide +kernel
theorem dL_law_545 : decode cL_law 545 = .ok (.istore 5, 2) := by decide +kernel
theorem dL_law_547 : decode cL_law 547 = .ok (.aload_n 2, 1) := by decide +kernel
theorem dL_law_548 : decode cL_law 548 = .ok (.aload_n 0, 1) := by decide +kernel
theorem dL_law_549 : decode cL_law 549 = .ok (.iload 4, 2) := by decide +kernel
theorem dL_law_551 : decode cL_law 551 = .ok (.iconst 1, 1) := by decide +kernel
theorem dL_law_552 : decode cL_law 552 = .ok (.iadd, 1) := by decide +kernel
theorem dL_law_553 : decode cL_law 553 = .ok (.iaload, 1) := by decide +kernel
theorem dL_law_554 : decode cL_law 554 = .ok (.aload_n 0, 1) := by decide +kernel
theorem dL_law_555 : decode cL_law 555 = .ok (.iload 4, 2) := by decide +kernel
theorem dL_law_557 : decode cL_law 557 = .ok (.iconst 2, 1) := by decide +kernel
theorem dL_law_558 : decode cL_law 558 = .ok (.iadd, 1) := by decide +kernel
theorem dL_law_559 : decode cL_law 559 = .ok (.iaload, 1) := by decide +kernel
theorem dL_law_560 : decode cL_law 560 = .ok (.invokevirtual 106, 3) := by decide +kernel
theorem dL_law_563 : decode cL_law 563 = .ok (.istore 6, 2) := by decide +kernel
theorem dL_law_565 : decode cL_law 565 = .ok (.aload_n 2, 1) := by decide +kernel
theorem dL_law_566 : decode cL_law 566 = .ok (.invokevirtual 83, 3) := by decide +kernel
theorem dL_law_569 : decode cL_law 569 = .ok (.iload 5, 2) := by decide +kernel
theorem dL_law_571 : decode cL_law 571 = .ok (.if_icmp .eq 5, 3) := by decide +kernel
theorem dL_law_574 : decode cL_law 574 = .ok (.iconst 0, 1) := by decide +kernel
theorem dL_law_575 : decode cL_law 575 = .ok (.ireturn, 1) := by decide +kernel
theorem dL_law_576 : decode cL_law 576 = .ok (.iload 5, 2) := by decide +kernel
theorem dL_law_578 : decode cL_law 578 = .ok (.ifCond .ne 15, 3) := by decide +kernel
theorem dL_law_581 : decode cL_law 581 = .ok (.aload_n 3, 1) := by decide +kernel
theorem dL_law_582 : decode cL_law 582 = .ok (.iconst 0, 1) := by decide +kernel
theorem dL_law_583 : decode cL_law 583 = .ok (.laload, 1) := by decide +kernel
theorem dL_law_584 : decode cL_law 584 = .ok (.iload 6, 2) := by decide +kernel
theorem dL_law_586 : decode cL_law 586 = .ok (.i2l, 1) := by decide +kernel
theorem dL_law_587 : decode cL_law 587 = .ok (.lcmp, 1) := by decide +kernel
theorem dL_law_588 : decode cL_law 588 = .ok (.ifCond .eq 5, 3) := by decide +kernel
theorem dL_law_591 : decode cL_law 591 = .ok (.iconst 0, 1) := by decide +kernel
theorem dL_law_592 : decode cL_law 592 = .ok (.ireturn, 1) := by decide +kernel
theorem dL_law_593 : decode cL_law 593 = .ok (.goto 758, 3) := by decide +kernel
theorem dL_law_596 : decode cL_law 596 = .ok (.aload_n 1, 1) := by decide +kernel
theorem dL_law_597 : decode cL_law 597 = .ok (.aload_n 0, 1) := by decide +kernel
theorem dL_law_598 : decode cL_law 598 = .ok (.iload 4, 2) := by decide +kernel
theorem dL_law_600 : decode cL_law 600 = .ok (.iconst 1, 1) := by decide +kernel
theorem dL_law_601 : decode cL_law 601 = .ok (.iadd, 1) := by decide +kernel
theorem dL_law_602 : decode cL_law 602 = .ok (.iaload, 1) := by decide +kernel
theorem dL_law_603 : decode cL_law 603 = .ok (.aload_n 0, 1) := by decide +kernel
theorem dL_law_604 : decode cL_law 604 = .ok (.iload 4, 2) := by decide +kernel
theorem dL_law_606 : decode cL_law 606 = .ok (.iconst 2, 1) := by decide +kernel
theorem dL_law_607 : decode cL_law 607 = .ok (.iadd, 1) := by decide +kernel
theorem dL_law_608 : decode cL_law 608 = .ok (.iaload, 1) := by decide +kernel
theorem dL_law_609 : decode cL_law 609 = .ok (.aload_n 0, 1) := by decide +kernel
theorem dL_law_610 : decode cL_law 610 = .ok (.iload 4, 2) := by decide +kernel
theorem dL_law_612 : decode cL_law 612 = .ok (.iconst 3, 1) := by decide +kernel
theorem dL_law_613 : decode cL_law 613 = .ok (.iadd, 1) := by decide +kernel
theorem dL_law_614 : decode cL_law 614 = .ok (.iaload, 1) := by decide +kernel
theorem dL_law_615 : decode cL_law 615 = .ok (.aload_n 3, 1) := by decide +kernel
theorem dL_law_616 : decode cL_law 616 = .ok (.invokestatic 107, 3) := by decide +kernel
theorem dL_law_619 : decode cL_law 619 = .ok (.istore 5, 2) := by decide +kernel
theorem dL_law_621 : decode cL_law 621 = .ok (.aload_n 2, 1) := by decide +kernel
theorem dL_law_622 : decode cL_law 622 = .ok (.aload_n 0, 1) := by decide +kernel
theorem dL_law_623 : decode cL_law 623 = .ok (.iload 4, 2) := by decide +kernel
theorem dL_law_625 : decode cL_law 625 = .ok (.iconst 1, 1) := by decide +kernel
theorem dL_law_626 : decode cL_law 626 = .ok (.iadd, 1) := by decide +kernel
theorem dL_law_627 : decode cL_law 627 = .ok (.iaload, 1) := by decide +kernel
theorem dL_law_628 : decode cL_law 628 = .ok (.aload_n 0, 1) := by decide +kernel
theorem dL_law_629 : decode cL_law 629 = .ok (.iload 4, 2) := by decide +kernel
theorem dL_law_631 : decode cL_law 631 = .ok (.iconst 2, 1) := by decide +kernel
theorem dL_law_632 : decode cL_law 632 = .ok (.iadd, 1) := by decide +kernel
theorem dL_law_633 : decode cL_law 633 = .ok (.iaload, 1) := by decide +kernel
theorem dL_law_634 : decode cL_law 634 = .ok (.aload_n 0, 1) := by decide +kernel
theorem dL_law_635 : decode cL_law 635 = .ok (.iload 4, 2) := by decide +kernel
theorem dL_law_637 : decode cL_law 637 = .ok (.iconst 3, 1) := by decide +kernel
theorem dL_law_638 : decode cL_law 638 = .ok (.iadd, 1) := by decide +kernel
theorem dL_law_639 : decode cL_law 639 = .ok (.iaload, 1) := by decide +kernel
theorem dL_law_640 : decode cL_law 640 = .ok (.invokevirtual 109, 3) := by decide +kernel
theorem dL_law_643 : decode cL_law 643 = .ok (.istore 6, 2) := by decide +kernel
theorem dL_law_645 : decode cL_law 645 = .ok (.aload_n 2, 1) := by decide +kernel
theorem dL_law_646 : decode cL_law 646 = .ok (.invokevirtual 83, 3) := by decide +kernel
theorem dL_law_649 : decode cL_law 649 = .ok (.iload 5, 2) := by decide +kernel
theorem dL_law_651 : decode cL_law 651 = .ok (.if_icmp .eq 5, 3) := by decide +kernel
theorem dL_law_654 : decode cL_law 654 = .ok (.iconst 0, 1) := by decide +kernel
theorem dL_law_655 : decode cL_law 655 = .ok (.ireturn, 1) := by decide +kernel
theorem dL_law_656 : decode cL_law 656 = .ok (.iload 5, 2) := by decide +kernel
theorem dL_law_658 : decode cL_law 658 = .ok (.ifCond .ne 15, 3) := by decide +kernel
theorem dL_law_661 : decode cL_law 661 = .ok (.aload_n 3, 1) := by decide +kernel
theorem dL_law_662 : decode cL_law 662 = .ok (.iconst 0, 1) := by decide +kernel
theorem dL_law_663 : decode cL_law 663 = .ok (.laload, 1) := by decide +kernel
theorem dL_law_664 : decode cL_law 664 = .ok (.iload 6, 2) := by decide +kernel
theorem dL_law_666 : decode cL_law 666 = .ok (.i2l, 1) := by decide +kernel
theorem dL_law_667 : decode cL_law 667 = .ok (.lcmp, 1) := by decide +kernel
theorem dL_law_668 : decode cL_law 668 = .ok (.ifCond .eq 5, 3) := by decide +kernel
theorem dL_law_671 : decode cL_law 671 = .ok (.iconst 0, 1) := by decide +kernel
theorem dL_law_672 : decode cL_law 672 = .ok (.ireturn, 1) := by decide +kernel
theorem dL_law_673 : decode cL_law 673 = .ok (.goto 678, 3) := by decide +kernel
theorem dL_law_676 : decode cL_law 676 = .ok (.aload_n 1, 1) := by decide +kernel
theorem dL_law_677 : decode cL_law 677 = .ok (.aload_n 0, 1) := by decide +kernel
theorem dL_law_678 : decode cL_law 678 = .ok (.iload 4, 2) := by decide +kernel
theorem dL_law_680 : decode cL_law 680 = .ok (.iconst 1, 1) := by decide +kernel
theorem dL_law_681 : decode cL_law 681 = .ok (.iadd, 1) := by decide +kernel
theorem dL_law_682 : decode cL_law 682 = .ok (.iaload, 1) := by decide +kernel
theorem dL_law_683 : decode cL_law 683 = .ok (.aload_n 0, 1) := by decide +kernel
theorem dL_law_684 : decode cL_law 684 = .ok (.iload 4, 2) := by decide +kernel
theorem dL_law_686 : decode cL_law 686 = .ok (.iconst 2, 1) := by decide +kernel
theorem dL_law_687 : decode cL_law 687 = .ok (.iadd, 1) := by decide +kernel
theorem dL_law_688 : decode cL_law 688 = .ok (.iaload, 1) := by decide +kernel
theorem dL_law_689 : decode cL_law 689 = .ok (.aload_n 3, 1) := by decide +kernel
theorem dL_law_690 : decode cL_law 690 = .ok (.invokestatic 110, 3) := by decide +kernel
theorem dL_law_693 : decode cL_law 693 = .ok (.istore 5, 2) := by decide +kernel
theorem dL_law_695 : decode cL_law 695 = .ok (.aload_n 2, 1) := by decide +kernel
theorem dL_law_696 : decode cL_law 696 = .ok (.aload_n 0, 1) := by decide +kernel
theorem dL_law_697 : decode cL_law 697 = .ok (.iload 4, 2) := by decide +kernel
theorem dL_law_699 : decode cL_law 699 = .ok (.iconst 1, 1) := by decide +kernel
theorem dL_law_700 : decode cL_law 700 = .ok (.iadd, 1) := by decide +kernel
theorem dL_law_701 : decode cL_law 701 = .ok (.iaload, 1) := by decide +kernel
theorem dL_law_702 : decode cL_law 702 = .ok (.aload_n 0, 1) := by decide +kernel
theorem dL_law_703 : decode cL_law 703 = .ok (.iload 4, 2) := by decide +kernel
theorem dL_law_705 : decode cL_law 705 = .ok (.iconst 2, 1) := by decide +kernel
theorem dL_law_706 : decode cL_law 706 = .ok (.iadd, 1) := by decide +kernel
theorem dL_law_707 : decode cL_law 707 = .ok (.iaload, 1) := by decide +kernel
theorem dL_law_708 : decode cL_law 708 = .ok (.invokevirtual 112, 3) := by decide +kernel
theorem dL_law_711 : decode cL_law 711 = .ok (.istore 6, 2) := by decide +kernel
theorem dL_law_713 : decode cL_law 713 = .ok (.aload_n 2, 1) := by decide +kernel
theorem dL_law_714 : decode cL_law 714 = .ok (.invokevirtual 83, 3) := by decide +kernel
theorem dL_law_717 : decode cL_law 717 = .ok (.iload 5, 2) := by decide +kernel
theorem dL_law_719 : decode cL_law 719 = .ok (.if_icmp .eq 5, 3) := by decide +kernel
theorem dL_law_722 : decode cL_law 722 = .ok (.iconst 0, 1) := by decide +kernel
theorem dL_law_723 : decode cL_law 723 = .ok (.ireturn, 1) := by decide +kernel
theorem dL_law_724 : decode cL_law 724 = .ok (.iload 5, 2) := by decide +kernel
theorem dL_law_726 : decode cL_law 726 = .ok (.ifCond .ne 15, 3) := by decide +kernel
theorem dL_law_729 : decode cL_law 729 = .ok (.aload_n 3, 1) := by decide +kernel
theorem dL_law_730 : decode cL_law 730 = .ok (.iconst 0, 1) := by decide +kernel
theorem dL_law_731 : decode cL_law 731 = .ok (.laload, 1) := by decide +kernel
theorem dL_law_732 : decode cL_law 732 = .ok (.iload 6, 2) := by decide +kernel
theorem dL_law_734 : decode cL_law 734 = .ok (.i2l, 1) := by decide +kernel
theorem dL_law_735 : decode cL_law 735 = .ok (.lcmp, 1) := by decide +kernel
theorem dL_law_736 : decode cL_law 736 = .ok (.ifCond .eq 5, 3) := by decide +kernel
theorem dL_law_739 : decode cL_law 739 = .ok (.iconst 0, 1) := by decide +kernel
theorem dL_law_740 : decode cL_law 740 = .ok (.ireturn, 1) := by decide +kernel
theorem dL_law_741 : decode cL_law 741 = .ok (.goto 610, 3) := by decide +kernel
theorem dL_law_744 : decode cL_law 744 = .ok (.aload_n 1, 1) := by decide +kernel
theorem dL_law_745 : decode cL_law 745 = .ok (.aload_n 0, 1) := by decide +kernel
theorem dL_law_746 : decode cL_law 746 = .ok (.iload 4, 2) := by decide +kernel
theorem dL_law_748 : decode cL_law 748 = .ok (.iconst 1, 1) := by decide +kernel
theorem dL_law_749 : decode cL_law 749 = .ok (.iadd, 1) := by decide +kernel
theorem dL_law_750 : decode cL_law 750 = .ok (.iaload, 1) := by decide +kernel
theorem dL_law_751 : decode cL_law 751 = .ok (.aload_n 3, 1) := by decide +kernel
theorem dL_law_752 : decode cL_law 752 = .ok (.invokestatic 113, 3) := by decide +kernel
theorem dL_law_755 : decode cL_law 755 = .ok (.istore 5, 2) := by decide +kernel
theorem dL_law_757 : decode cL_law 757 = .ok (.aload_n 2, 1) := by decide +kernel
theorem dL_law_758 : decode cL_law 758 = .ok (.aload_n 0, 1) := by decide +kernel
theorem dL_law_759 : decode cL_law 759 = .ok (.iload 4, 2) := by decide +kernel
theorem dL_law_761 : decode cL_law 761 = .ok (.iconst 1, 1) := by decide +kernel
theorem dL_law_762 : decode cL_law 762 = .ok (.iadd, 1) := by decide +kernel
theorem dL_law_763 : decode cL_law 763 = .ok (.iaload, 1) := by decide +kernel
theorem dL_law_764 : decode cL_law 764 = .ok (.invokevirtual 115, 3) := by decide +kernel
theorem dL_law_767 : decode cL_law 767 = .ok (.istore 6, 2) := by decide +kernel
theorem dL_law_769 : decode cL_law 769 = .ok (.aload_n 2, 1) := by decide +kernel
theorem dL_law_770 : decode cL_law 770 = .ok (.invokevirtual 83, 3) := by decide +kernel
theorem dL_law_773 : decode cL_law 773 = .ok (.iload 5, 2) := by decide +kernel
theorem dL_law_775 : decode cL_law 775 = .ok (.if_icmp .eq 5, 3) := by decide +kernel
theorem dL_law_778 : decode cL_law 778 = .ok (.iconst 0, 1) := by decide +kernel
theorem dL_law_779 : decode cL_law 779 = .ok (.ireturn, 1) := by decide +kernel
theorem dL_law_780 : decode cL_law 780 = .ok (.iload 5, 2) := by decide +kernel
theorem dL_law_782 : decode cL_law 782 = .ok (.ifCond .ne 15, 3) := by decide +kernel
theorem dL_law_785 : decode cL_law 785 = .ok (.aload_n 3, 1) := by decide +kernel
theorem dL_law_786 : decode cL_law 786 = .ok (.iconst 0, 1) := by decide +kernel
theorem dL_law_787 : decode cL_law 787 = .ok (.laload, 1) := by decide +kernel
theorem dL_law_788 : decode cL_law 788 = .ok (.iload 6, 2) := by decide +kernel
theorem dL_law_790 : decode cL_law 790 = .ok (.i2l, 1) := by decide +kernel
theorem dL_law_791 : decode cL_law 791 = .ok (.lcmp, 1) := by decide +kernel
theorem dL_law_792 : decode cL_law 792 = .ok (.ifCond .eq 5, 3) := by decide +kernel
theorem dL_law_795 : decode cL_law 795 = .ok (.iconst 0, 1) := by decide +kernel
theorem dL_law_796 : decode cL_law 796 = .ok (.ireturn, 1) := by decide +kernel
theorem dL_law_797 : decode cL_law 797 = .ok (.goto 554, 3) := by decide +kernel
theorem dL_law_800 : decode cL_law 800 = .ok (.aload_n 1, 1) := by decide +kernel
theorem dL_law_801 : decode cL_law 801 = .ok (.aload_n 0, 1) := by decide +kernel
theorem dL_law_802 : decode cL_law 802 = .ok (.iload 4, 2) := by decide +kernel
theorem dL_law_804 : decode cL_law 804 = .ok (.iconst 1, 1) := by decide +kernel
theorem dL_law_805 : decode cL_law 805 = .ok (.iadd, 1) := by decide +kernel
theorem dL_law_806 : decode cL_law 806 = .ok (.iaload, 1) := by decide +kernel
theorem dL_law_807 : decode cL_law 807 = .ok (.aload_n 3, 1) := by decide +kernel
theorem dL_law_808 : decode cL_law 808 = .ok (.invokestatic 116, 3) := by decide +kernel
theorem dL_law_811 : decode cL_law 811 = .ok (.istore 5, 2) := by decide +kernel
theorem dL_law_813 : decode cL_law 813 = .ok (.aload_n 2, 1) := by decide +kernel
theorem dL_law_814 : decode cL_law 814 = .ok (.aload_n 0, 1) := by decide +kernel
theorem dL_law_815 : decode cL_law 815 = .ok (.iload 4, 2) := by decide +kernel
theorem dL_law_817 : decode cL_law 817 = .ok (.iconst 1, 1) := by decide +kernel
theorem dL_law_818 : decode cL_law 818 = .ok (.iadd, 1) := by decide +kernel
theorem dL_law_819 : decode cL_law 819 = .ok (.iaload, 1) := by decide +kernel
theorem dL_law_820 : decode cL_law 820 = .ok (.invokevirtual 118, 3) := by decide +kernel
theorem dL_law_823 : decode cL_law 823 = .ok (.istore 6, 2) := by decide +kernel
theorem dL_law_825 : decode cL_law 825 = .ok (.aload_n 2, 1) := by decide +kernel
theorem dL_law_826 : decode cL_law 826 = .ok (.invokevirtual 83, 3) := by decide +kernel
theorem dL_law_829 : decode cL_law 829 = .ok (.iload 5, 2) := by decide +kernel
theorem dL_law_831 : decode cL_law 831 = .ok (.if_icmp .eq 5, 3) := by decide +kernel
theorem dL_law_834 : decode cL_law 834 = .ok (.iconst 0, 1) := by decide +kernel
theorem dL_law_835 : decode cL_law 835 = .ok (.ireturn, 1) := by decide +kernel
theorem dL_law_836 : decode cL_law 836 = .ok (.iload 5, 2) := by decide +kernel
theorem dL_law_838 : decode cL_law 838 = .ok (.ifCond .ne 15, 3) := by decide +kernel
theorem dL_law_841 : decode cL_law 841 = .ok (.aload_n 3, 1) := by decide +kernel
theorem dL_law_842 : decode cL_law 842 = .ok (.iconst 0, 1) := by decide +kernel
theorem dL_law_843 : decode cL_law 843 = .ok (.laload, 1) := by decide +kernel
theorem dL_law_844 : decode cL_law 844 = .ok (.iload 6, 2) := by decide +kernel
theorem dL_law_846 : decode cL_law 846 = .ok (.i2l, 1) := by decide +kernel
theorem dL_law_847 : decode cL_law 847 = .ok (.lcmp, 1) := by decide +kernel
theorem dL_law_848 : decode cL_law 848 = .ok (.ifCond .eq 5, 3) := by decide +kernel
theorem dL_law_851 : decode cL_law 851 = .ok (.iconst 0, 1) := by decide +kernel
theorem dL_law_852 : decode cL_law 852 = .ok (.ireturn, 1) := by decide +kernel
theorem dL_law_853 : decode cL_law 853 = .ok (.goto 498, 3) := by decide +kernel
theorem dL_law_856 : decode cL_law 856 = .ok (.aload_n 1, 1) := by decide +kernel
theorem dL_law_857 : decode cL_law 857 = .ok (.aload_n 0, 1) := by decide +kernel
theorem dL_law_858 : decode cL_law 858 = .ok (.iload 4, 2) := by decide +kernel
theorem dL_law_860 : decode cL_law 860 = .ok (.iconst 1, 1) := by decide +kernel
theorem dL_law_861 : decode cL_law 861 = .ok (.iadd, 1) := by decide +kernel
theorem dL_law_862 : decode cL_law 862 = .ok (.iaload, 1) := by decide +kernel
theorem dL_law_863 : decode cL_law 863 = .ok (.aload_n 0, 1) := by decide +kernel
theorem dL_law_864 : decode cL_law 864 = .ok (.iload 4, 2) := by decide +kernel
theorem dL_law_866 : decode cL_law 866 = .ok (.iconst 2, 1) := by decide +kernel
theorem dL_law_867 : decode cL_law 867 = .ok (.iadd, 1) := by decide +kernel
theorem dL_law_868 : decode cL_law 868 = .ok (.iaload, 1) := by decide +kernel
theorem dL_law_869 : decode cL_law 869 = .ok (.aload_n 3, 1) := by decide +kernel
theorem dL_law_870 : decode cL_law 870 = .ok (.invokestatic 119, 3) := by decide +kernel
theorem dL_law_873 : decode cL_law 873 = .ok (.istore 5, 2) := by decide +kernel
theorem dL_law_875 : decode cL_law 875 = .ok (.aload_n 2, 1) := by decide +kernel
theorem dL_law_876 : decode cL_law 876 = .ok (.aload_n 0, 1) := by decide +kernel
theorem dL_law_877 : decode cL_law 877 = .ok (.iload 4, 2) := by decide +kernel
theorem dL_law_879 : decode cL_law 879 = .ok (.iconst 1, 1) := by decide +kernel
theorem dL_law_880 : decode cL_law 880 = .ok (.iadd, 1) := by decide +kernel
theorem dL_law_881 : decode cL_law 881 = .ok (.iaload, 1) := by decide +kernel
theorem dL_law_882 : decode cL_law 882 = .ok (.aload_n 0, 1) := by decide +kernel
theorem dL_law_883 : decode cL_law 883 = .ok (.iload 4, 2) := by decide +kernel
theorem dL_law_885 : decode cL_law 885 = .ok (.iconst 2, 1) := by decide +kernel
theorem dL_law_886 : decode cL_law 886 = .ok (.iadd, 1) := by decide +kernel
theorem dL_law_887 : decode cL_law 887 = .ok (.iaload, 1) := by decide +kernel
theorem dL_law_888 : decode cL_law 888 = .ok (.invokevirtual 121, 3) := by decide +kernel
theorem dL_law_891 : decode cL_law 891 = .ok (.istore 6, 2) := by decide +kernel
theorem dL_law_893 : decode cL_law 893 = .ok (.aload_n 2, 1) := by decide +kernel
theorem dL_law_894 : decode cL_law 894 = .ok (.invokevirtual 83, 3) := by decide +kernel
theorem dL_law_897 : decode cL_law 897 = .ok (.iload 5, 2) := by decide +kernel
theorem dL_law_899 : decode cL_law 899 = .ok (.if_icmp .eq 5, 3) := by decide +kernel
theorem dL_law_902 : decode cL_law 902 = .ok (.iconst 0, 1) := by decide +kernel
theorem dL_law_903 : decode cL_law 903 = .ok (.ireturn, 1) := by decide +kernel
theorem dL_law_904 : decode cL_law 904 = .ok (.iload 5, 2) := by decide +kernel
theorem dL_law_906 : decode cL_law 906 = .ok (.ifCond .ne 15, 3) := by decide +kernel
theorem dL_law_909 : decode cL_law 909 = .ok (.aload_n 3, 1) := by decide +kernel
theorem dL_law_910 : decode cL_law 910 = .ok (.iconst 0, 1) := by decide +kernel
theorem dL_law_911 : decode cL_law 911 = .ok (.laload, 1) := by decide +kernel
theorem dL_law_912 : decode cL_law 912 = .ok (.iload 6, 2) := by decide +kernel
theorem dL_law_914 : decode cL_law 914 = .ok (.i2l, 1) := by decide +kernel
theorem dL_law_915 : decode cL_law 915 = .ok (.lcmp, 1) := by decide +kernel
theorem dL_law_916 : decode cL_law 916 = .ok (.ifCond .eq 5, 3) := by decide +kernel
theorem dL_law_919 : decode cL_law 919 = .ok (.iconst 0, 1) := by decide +kernel
theorem dL_law_920 : decode cL_law 920 = .ok (.ireturn, 1) := by decide +kernel
theorem dL_law_921 : decode cL_law 921 = .ok (.goto 430, 3) := by decide +kernel
theorem dL_law_924 : decode cL_law 924 = .ok (.aload_n 1, 1) := by decide +kernel
theorem dL_law_925 : decode cL_law 925 = .ok (.aload_n 0, 1) := by decide +kernel
theorem dL_law_926 : decode cL_law 926 = .ok (.iload 4, 2) := by decide +kernel
theorem dL_law_928 : decode cL_law 928 = .ok (.iconst 1, 1) := by decide +kernel
theorem dL_law_929 : decode cL_law 929 = .ok (.iadd, 1) := by decide +kernel
theorem dL_law_930 : decode cL_law 930 = .ok (.iaload, 1) := by decide +kernel
theorem dL_law_931 : decode cL_law 931 = .ok (.aload_n 0, 1) := by decide +kernel
theorem dL_law_932 : decode cL_law 932 = .ok (.iload 4, 2) := by decide +kernel
theorem dL_law_934 : decode cL_law 934 = .ok (.iconst 2, 1) := by decide +kernel
theorem dL_law_935 : decode cL_law 935 = .ok (.iadd, 1) := by decide +kernel
theorem dL_law_936 : decode cL_law 936 = .ok (.iaload, 1) := by decide +kernel
theorem dL_law_937 : decode cL_law 937 = .ok (.aload_n 3, 1) := by decide +kernel
theorem dL_law_938 : decode cL_law 938 = .ok (.invokestatic 122, 3) := by decide +kernel
theorem dL_law_941 : decode cL_law 941 = .ok (.istore 5, 2) := by decide +kernel
theorem dL_law_943 : decode cL_law 943 = .ok (.aload_n 2, 1) := by decide +kernel
theorem dL_law_944 : decode cL_law 944 = .ok (.aload_n 0, 1) := by decide +kernel
theorem dL_law_945 : decode cL_law 945 = .ok (.iload 4, 2) := by decide +kernel
theorem dL_law_947 : decode cL_law 947 = .ok (.iconst 1, 1) := by decide +kernel
theorem dL_law_948 : decode cL_law 948 = .ok (.iadd, 1) := by decide +kernel
theorem dL_law_949 : decode cL_law 949 = .ok (.iaload, 1) := by decide +kernel
theorem dL_law_950 : decode cL_law 950 = .ok (.aload_n 0, 1) := by decide +kernel
theorem dL_law_951 : decode cL_law 951 = .ok (.iload 4, 2) := by decide +kernel
theorem dL_law_953 : decode cL_law 953 = .ok (.iconst 2, 1) := by decide +kernel
theorem dL_law_954 : decode cL_law 954 = .ok (.iadd, 1) := by decide +kernel
theorem dL_law_955 : decode cL_law 955 = .ok (.iaload, 1) := by decide +kernel
theorem dL_law_956 : decode cL_law 956 = .ok (.invokevirtual 124, 3) := by decide +kernel
theorem dL_law_959 : decode cL_law 959 = .ok (.istore 6, 2) := by decide +kernel
theorem dL_law_961 : decode cL_law 961 = .ok (.aload_n 2, 1) := by decide +kernel
theorem dL_law_962 : decode cL_law 962 = .ok (.invokevirtual 83, 3) := by decide +kernel
theorem dL_law_965 : decode cL_law 965 = .ok (.iload 5, 2) := by decide +kernel
theorem dL_law_967 : decode cL_law 967 = .ok (.if_icmp .eq 5, 3) := by decide +kernel
theorem dL_law_970 : decode cL_law 970 = .ok (.iconst 0, 1) := by decide +kernel
theorem dL_law_971 : decode cL_law 971 = .ok (.ireturn, 1) := by decide +kernel
theorem dL_law_972 : decode cL_law 972 = .ok (.iload 5, 2) := by decide +kernel
theorem dL_law_974 : decode cL_law 974 = .ok (.ifCond .ne 15, 3) := by decide +kernel
theorem dL_law_977 : decode cL_law 977 = .ok (.aload_n 3, 1) := by decide +kernel
theorem dL_law_978 : decode cL_law 978 = .ok (.iconst 0, 1) := by decide +kernel
theorem dL_law_979 : decode cL_law 979 = .ok (.laload, 1) := by decide +kernel
theorem dL_law_980 : decode cL_law 980 = .ok (.iload 6, 2) := by decide +kernel
theorem dL_law_982 : decode cL_law 982 = .ok (.i2l, 1) := by decide +kernel
theorem dL_law_983 : decode cL_law 983 = .ok (.lcmp, 1) := by decide +kernel
theorem dL_law_984 : decode cL_law 984 = .ok (.ifCond .eq 5, 3) := by decide +kernel
theorem dL_law_987 : decode cL_law 987 = .ok (.iconst 0, 1) := by decide +kernel
theorem dL_law_988 : decode cL_law 988 = .ok (.ireturn, 1) := by decide +kernel
theorem dL_law_989 : decode cL_law 989 = .ok (.goto 362, 3) := by decide +kernel
theorem dL_law_992 : decode cL_law 992 = .ok (.aload_n 1, 1) := by decide +kernel
theorem dL_law_993 : decode cL_law 993 = .ok (.aload_n 0, 1) := by decide +kernel
theorem dL_law_994 : decode cL_law 994 = .ok (.iload 4, 2) := by decide +kernel
theorem dL_law_996 : decode cL_law 996 = .ok (.iconst 1, 1) := by decide +kernel
theorem dL_law_997 : decode cL_law 997 = .ok (.iadd, 1) := by decide +kernel
theorem dL_law_998 : decode cL_law 998 = .ok (.iaload, 1) := by decide +kernel
theorem dL_law_999 : decode cL_law 999 = .ok (.aload_n 3, 1) := by decide +kernel
theorem dL_law_1000 : decode cL_law 1000 = .ok (.invokestatic 125, 3) := by decide +kernel
theorem dL_law_1003 : decode cL_law 1003 = .ok (.istore 5, 2) := by decide +kernel
theorem dL_law_1005 : decode cL_law 1005 = .ok (.aload_n 2, 1) := by decide +kernel
theorem dL_law_1006 : decode cL_law 1006 = .ok (.aload_n 0, 1) := by decide +kernel
theorem dL_law_1007 : decode cL_law 1007 = .ok (.iload 4, 2) := by decide +kernel
theorem dL_law_1009 : decode cL_law 1009 = .ok (.iconst 1, 1) := by decide +kernel
theorem dL_law_1010 : decode cL_law 1010 = .ok (.iadd, 1) := by decide +kernel
theorem dL_law_1011 : decode cL_law 1011 = .ok (.iaload, 1) := by decide +kernel
theorem dL_law_1012 : decode cL_law 1012 = .ok (.invokevirtual 127, 3) := by decide +kernel
theorem dL_law_1015 : decode cL_law 1015 = .ok (.istore 6, 2) := by decide +kernel
theorem dL_law_1017 : decode cL_law 1017 = .ok (.aload_n 2, 1) := by decide +kernel
theorem dL_law_1018 : decode cL_law 1018 = .ok (.invokevirtual 83, 3) := by decide +kernel
theorem dL_law_1021 : decode cL_law 1021 = .ok (.iload 5, 2) := by decide +kernel
theorem dL_law_1023 : decode cL_law 1023 = .ok (.if_icmp .eq 5, 3) := by decide +kernel
theorem dL_law_1026 : decode cL_law 1026 = .ok (.iconst 0, 1) := by decide +kernel
theorem dL_law_1027 : decode cL_law 1027 = .ok (.ireturn, 1) := by decide +kernel
theorem dL_law_1028 : decode cL_law 1028 = .ok (.iload 5, 2) := by decide +kernel
theorem dL_law_1030 : decode cL_law 1030 = .ok (.ifCond .ne 15, 3) := by decide +kernel
theorem dL_law_1033 : decode cL_law 1033 = .ok (.aload_n 3, 1) := by decide +kernel
theorem dL_law_1034 : decode cL_law 1034 = .ok (.iconst 0, 1) := by decide +kernel
theorem dL_law_1035 : decode cL_law 1035 = .ok (.laload, 1) := by decide +kernel
theorem dL_law_1036 : decode cL_law 1036 = .ok (.iload 6, 2) := by decide +kernel
theorem dL_law_1038 : decode cL_law 1038 = .ok (.i2l, 1) := by decide +kernel
theorem dL_law_1039 : decode cL_law 1039 = .ok (.lcmp, 1) := by decide +kernel
theorem dL_law_1040 : decode cL_law 1040 = .ok (.ifCond .eq 5, 3) := by decide +kernel
theorem dL_law_1043 : decode cL_law 1043 = .ok (.iconst 0, 1) := by decide +kernel
theorem dL_law_1044 : decode cL_law 1044 = .ok (.ireturn, 1) := by decide +kernel
theorem dL_law_1045 : decode cL_law 1045 = .ok (.goto 306, 3) := by decide +kernel
theorem dL_law_1048 : decode cL_law 1048 = .ok (.aload_n 1, 1) := by decide +kernel
theorem dL_law_1049 : decode cL_law 1049 = .ok (.aload_n 0, 1) := by decide +kernel
theorem dL_law_1050 : decode cL_law 1050 = .ok (.iload 4, 2) := by decide +kernel
theorem dL_law_1052 : decode cL_law 1052 = .ok (.iconst 1, 1) := by decide +kernel
theorem dL_law_1053 : decode cL_law 1053 = .ok (.iadd, 1) := by decide +kernel
theorem dL_law_1054 : decode cL_law 1054 = .ok (.iaload, 1) := by decide +kernel
theorem dL_law_1055 : decode cL_law 1055 = .ok (.aload_n 3, 1) := by decide +kernel
theorem dL_law_1056 : decode cL_law 1056 = .ok (.invokestatic 128, 3) := by decide +kernel
theorem dL_law_1059 : decode cL_law 1059 = .ok (.istore 5, 2) := by decide +kernel
theorem dL_law_1061 : decode cL_law 1061 = .ok (.aload_n 2, 1) := by decide +kernel
theorem dL_law_1062 : decode cL_law 1062 = .ok (.aload_n 0, 1) := by decide +kernel
theorem dL_law_1063 : decode cL_law 1063 = .ok (.iload 4, 2) := by decide +kernel
theorem dL_law_1065 : decode cL_law 1065 = .ok (.iconst 1, 1) := by decide +kernel
theorem dL_law_1066 : decode cL_law 1066 = .ok (.iadd, 1) := by decide +kernel
theorem dL_law_1067 : decode cL_law 1067 = .ok (.iaload, 1) := by decide +kernel
theorem dL_law_1068 : decode cL_law 1068 = .ok (.invokevirtual 130, 3) := by decide +kernel
theorem dL_law_1071 : decode cL_law 1071 = .ok (.istore 6, 2) := by decide +kernel
theorem dL_law_1073 : decode cL_law 1073 = .ok (.aload_n 2, 1) := by decide +kernel
theorem dL_law_1074 : decode cL_law 1074 = .ok (.invokevirtual 83, 3) := by decide +kernel
theorem dL_law_1077 : decode cL_law 1077 = .ok (.iload 5, 2) := by decide +kernel
theorem dL_law_1079 : decode cL_law 1079 = .ok (.if_icmp .eq 5, 3) := by decide +kernel
theorem dL_law_1082 : decode cL_law 1082 = .ok (.iconst 0, 1) := by decide +kernel
theorem dL_law_1083 : decode cL_law 1083 = .ok (.ireturn, 1) := by decide +kernel
theorem dL_law_1084 : decode cL_law 1084 = .ok (.iload 5, 2) := by decide +kernel
theorem dL_law_1086 : decode cL_law 1086 = .ok (.ifCond .ne 15, 3) := by decide +kernel
theorem dL_law_1089 : decode cL_law 1089 = .ok (.aload_n 3, 1) := by decide +kernel
theorem dL_law_1090 : decode cL_law 1090 = .ok (.iconst 0, 1) := by decide +kernel
theorem dL_law_1091 : decode cL_law 1091 = .ok (.laload, 1) := by decide +kernel
theorem dL_law_1092 : decode cL_law 1092 = .ok (.iload 6, 2) := by decide +kernel
theorem dL_law_1094 : decode cL_law 1094 = .ok (.i2l, 1) := by decide +kernel
theorem dL_law_1095 : decode cL_law 1095 = .ok (.lcmp, 1) := by decide +kernel
theorem dL_law_1096 : decode cL_law 1096 = .ok (.ifCond .eq 5, 3) := by decide +kernel
theorem dL_law_1099 : decode cL_law 1099 = .ok (.iconst 0, 1) := by decide +kernel
theorem dL_law_1100 : decode cL_law 1100 = .ok (.ireturn, 1) := by decide +kernel
theorem dL_law_1101 : decode cL_law 1101 = .ok (.goto 250, 3) := by decide +kernel
theorem dL_law_1104 : decode cL_law 1104 = .ok (.aload_n 1, 1) := by decide +kernel
theorem dL_law_1105 : decode cL_law 1105 = .ok (.aload_n 0, 1) := by decide +kernel
theorem dL_law_1106 : decode cL_law 1106 = .ok (.iload 4, 2) := by decide +kernel
theorem dL_law_1108 : decode cL_law 1108 = .ok (.iconst 1, 1) := by decide +kernel
theorem dL_law_1109 : decode cL_law 1109 = .ok (.iadd, 1) := by decide +kernel
theorem dL_law_1110 : decode cL_law 1110 = .ok (.iaload, 1) := by decide +kernel
theorem dL_law_1111 : decode cL_law 1111 = .ok (.aload_n 0, 1) := by decide +kernel
theorem dL_law_1112 : decode cL_law 1112 = .ok (.iload 4, 2) := by decide +kernel
theorem dL_law_1114 : decode cL_law 1114 = .ok (.iconst 2, 1) := by decide +kernel
theorem dL_law_1115 : decode cL_law 1115 = .ok (.iadd, 1) := by decide +kernel
theorem dL_law_1116 : decode cL_law 1116 = .ok (.iaload, 1) := by decide +kernel
theorem dL_law_1117 : decode cL_law 1117 = .ok (.aload_n 3, 1) := by decide +kernel
theorem dL_law_1118 : decode cL_law 1118 = .ok (.invokestatic 131, 3) := by decide +kernel
theorem dL_law_1121 : decode cL_law 1121 = .ok (.istore 5, 2) := by decide +kernel
theorem dL_law_1123 : decode cL_law 1123 = .ok (.aload_n 2, 1) := by decide +kernel
theorem dL_law_1124 : decode cL_law 1124 = .ok (.aload_n 0, 1) := by decide +kernel
theorem dL_law_1125 : decode cL_law 1125 = .ok (.iload 4, 2) := by decide +kernel
theorem dL_law_1127 : decode cL_law 1127 = .ok (.iconst 1, 1) := by decide +kernel
theorem dL_law_1128 : decode cL_law 1128 = .ok (.iadd, 1) := by decide +kernel
theorem dL_law_1129 : decode cL_law 1129 = .ok (.iaload, 1) := by decide +kernel
theorem dL_law_1130 : decode cL_law 1130 = .ok (.aload_n 0, 1) := by decide +kernel
theorem dL_law_1131 : decode cL_law 1131 = .ok (.iload 4, 2) := by decide +kernel
theorem dL_law_1133 : decode cL_law 1133 = .ok (.iconst 2, 1) := by decide +kernel
theorem dL_law_1134 : decode cL_law 1134 = .ok (.iadd, 1) := by decide +kernel
theorem dL_law_1135 : decode cL_law 1135 = .ok (.iaload, 1) := by decide +kernel
theorem dL_law_1136 : decode cL_law 1136 = .ok (.invokevirtual 133, 3) := by decide +kernel
theorem dL_law_1139 : decode cL_law 1139 = .ok (.istore 6, 2) := by decide +kernel
theorem dL_law_1141 : decode cL_law 1141 = .ok (.aload_n 2, 1) := by decide +kernel
theorem dL_law_1142 : decode cL_law 1142 = .ok (.invokevirtual 83, 3) := by decide +kernel
theorem dL_law_1145 : decode cL_law 1145 = .ok (.iload 5, 2) := by decide +kernel
theorem dL_law_1147 : decode cL_law 1147 = .ok (.if_icmp .eq 5, 3) := by decide +kernel
theorem dL_law_1150 : decode cL_law 1150 = .ok (.iconst 0, 1) := by decide +kernel
theorem dL_law_1151 : decode cL_law 1151 = .ok (.ireturn, 1) := by decide +kernel
theorem dL_law_1152 : decode cL_law 1152 = .ok (.iload 5, 2) := by decide +kernel
theorem dL_law_1154 : decode cL_law 1154 = .ok (.ifCond .ne 15, 3) := by decide +kernel
theorem dL_law_1157 : decode cL_law 1157 = .ok (.aload_n 3, 1) := by decide +kernel
theorem dL_law_1158 : decode cL_law 1158 = .ok (.iconst 0, 1) := by decide +kernel
theorem dL_law_1159 : decode cL_law 1159 = .ok (.laload, 1) := by decide +kernel
theorem dL_law_1160 : decode cL_law 1160 = .ok (.iload 6, 2) := by decide +kernel
theorem dL_law_1162 : decode cL_law 1162 = .ok (.i2l, 1) := by decide +kernel
theorem dL_law_1163 : decode cL_law 1163 = .ok (.lcmp, 1) := by decide +kernel
theorem dL_law_1164 : decode cL_law 1164 = .ok (.ifCond .eq 5, 3) := by decide +kernel
theorem dL_law_1167 : decode cL_law 1167 = .ok (.iconst 0, 1) := by decide +kernel
theorem dL_law_1168 : decode cL_law 1168 = .ok (.ireturn, 1) := by decide +kernel
theorem dL_law_1169 : decode cL_law 1169 = .ok (.goto 182, 3) := by decide +kernel
theorem dL_law_1172 : decode cL_law 1172 = .ok (.aload_n 1, 1) := by decide +kernel
theorem dL_law_1173 : decode cL_law 1173 = .ok (.aload_n 0, 1) := by decide +kernel
theorem dL_law_1174 : decode cL_law 1174 = .ok (.iload 4, 2) := by decide +kernel
theorem dL_law_1176 : decode cL_law 1176 = .ok (.iconst 1, 1) := by decide +kernel
theorem dL_law_1177 : decode cL_law 1177 = .ok (.iadd, 1) := by decide +kernel
theorem dL_law_1178 : decode cL_law 1178 = .ok (.iaload, 1) := by decide +kernel
theorem dL_law_1179 : decode cL_law 1179 = .ok (.aload_n 3, 1) := by decide +kernel
theorem dL_law_1180 : decode cL_law 1180 = .ok (.invokestatic 134, 3) := by decide +kernel
theorem dL_law_1183 : decode cL_law 1183 = .ok (.istore 5, 2) := by decide +kernel
theorem dL_law_1185 : decode cL_law 1185 = .ok (.aload_n 2, 1) := by decide +kernel
theorem dL_law_1186 : decode cL_law 1186 = .ok (.aload_n 0, 1) := by decide +kernel
theorem dL_law_1187 : decode cL_law 1187 = .ok (.iload 4, 2) := by decide +kernel
theorem dL_law_1189 : decode cL_law 1189 = .ok (.iconst 1, 1) := by decide +kernel
theorem dL_law_1190 : decode cL_law 1190 = .ok (.iadd, 1) := by decide +kernel
theorem dL_law_1191 : decode cL_law 1191 = .ok (.iaload, 1) := by decide +kernel
theorem dL_law_1192 : decode cL_law 1192 = .ok (.invokevirtual 136, 3) := by decide +kernel
theorem dL_law_1195 : decode cL_law 1195 = .ok (.istore 6, 2) := by decide +kernel
theorem dL_law_1197 : decode cL_law 1197 = .ok (.aload_n 2, 1) := by decide +kernel
theorem dL_law_1198 : decode cL_law 1198 = .ok (.invokevirtual 83, 3) := by decide +kernel
theorem dL_law_1201 : decode cL_law 1201 = .ok (.iload 5, 2) := by decide +kernel
theorem dL_law_1203 : decode cL_law 1203 = .ok (.if_icmp .eq 5, 3) := by decide +kernel
theorem dL_law_1206 : decode cL_law 1206 = .ok (.iconst 0, 1) := by decide +kernel
theorem dL_law_1207 : decode cL_law 1207 = .ok (.ireturn, 1) := by decide +kernel
theorem dL_law_1208 : decode cL_law 1208 = .ok (.iload 5, 2) := by decide +kernel
theorem dL_law_1210 : decode cL_law 1210 = .ok (.ifCond .ne 15, 3) := by decide +kernel
theorem dL_law_1213 : decode cL_law 1213 = .ok (.aload_n 3, 1) := by decide +kernel
theorem dL_law_1214 : decode cL_law 1214 = .ok (.iconst 0, 1) := by decide +kernel
theorem dL_law_1215 : decode cL_law 1215 = .ok (.laload, 1) := by decide +kernel
theorem dL_law_1216 : decode cL_law 1216 = .ok (.iload 6, 2) := by decide +kernel
theorem dL_law_1218 : decode cL_law 1218 = .ok (.i2l, 1) := by decide +kernel
theorem dL_law_1219 : decode cL_law 1219 = .ok (.lcmp, 1) := by decide +kernel
theorem dL_law_1220 : decode cL_law 1220 = .ok (.ifCond .eq 5, 3) := by decide +kernel
theorem dL_law_1223 : decode cL_law 1223 = .ok (.iconst 0, 1) := by decide +kernel
theorem dL_law_1224 : decode cL_law 1224 = .ok (.ireturn, 1) := by decide +kernel
theorem dL_law_1225 : decode cL_law 1225 = .ok (.goto 126, 3) := by decide +kernel
theorem dL_law_1228 : decode cL_law 1228 = .ok (.aload_n 1, 1) := by decide +kernel
theorem dL_law_1229 : decode cL_law 1229 = .ok (.aload_n 0, 1) := by decide +kernel
theorem dL_law_1230 : decode cL_law 1230 = .ok (.iload 4, 2) := by decide +kernel
theorem dL_law_1232 : decode cL_law 1232 = .ok (.iconst 1, 1) := by decide +kernel
theorem dL_law_1233 : decode cL_law 1233 = .ok (.iadd, 1) := by decide +kernel
theorem dL_law_1234 : decode cL_law 1234 = .ok (.iaload, 1) := by decide +kernel
theorem dL_law_1235 : decode cL_law 1235 = .ok (.aload_n 0, 1) := by decide +kernel
theorem dL_law_1236 : decode cL_law 1236 = .ok (.iload 4, 2) := by decide +kernel
theorem dL_law_1238 : decode cL_law 1238 = .ok (.iconst 2, 1) := by decide +kernel
theorem dL_law_1239 : decode cL_law 1239 = .ok (.iadd, 1) := by decide +kernel
theorem dL_law_1240 : decode cL_law 1240 = .ok (.iaload, 1) := by decide +kernel
theorem dL_law_1241 : decode cL_law 1241 = .ok (.aload_n 3, 1) := by decide +kernel
theorem dL_law_1242 : decode cL_law 1242 = .ok (.invokestatic 137, 3) := by decide +kernel
theorem dL_law_1245 : decode cL_law 1245 = .ok (.istore 5, 2) := by decide +kernel
theorem dL_law_1247 : decode cL_law 1247 = .ok (.aload_n 2, 1) := by decide +kernel
theorem dL_law_1248 : decode cL_law 1248 = .ok (.aload_n 0, 1) := by decide +kernel
theorem dL_law_1249 : decode cL_law 1249 = .ok (.iload 4, 2) := by decide +kernel
theorem dL_law_1251 : decode cL_law 1251 = .ok (.iconst 1, 1) := by decide +kernel
theorem dL_law_1252 : decode cL_law 1252 = .ok (.iadd, 1) := by decide +kernel
theorem dL_law_1253 : decode cL_law 1253 = .ok (.iaload, 1) := by decide +kernel
theorem dL_law_1254 : decode cL_law 1254 = .ok (.aload_n 0, 1) := by decide +kernel
theorem dL_law_1255 : decode cL_law 1255 = .ok (.iload 4, 2) := by decide +kernel
theorem dL_law_1257 : decode cL_law 1257 = .ok (.iconst 2, 1) := by decide +kernel
theorem dL_law_1258 : decode cL_law 1258 = .ok (.iadd, 1) := by decide +kernel
theorem dL_law_1259 : decode cL_law 1259 = .ok (.iaload, 1) := by decide +kernel
theorem dL_law_1260 : decode cL_law 1260 = .ok (.invokevirtual 139, 3) := by decide +kernel
theorem dL_law_1263 : decode cL_law 1263 = .ok (.istore 6, 2) := by decide +kernel
theorem dL_law_1265 : decode cL_law 1265 = .ok (.aload_n 2, 1) := by decide +kernel
theorem dL_law_1266 : decode cL_law 1266 = .ok (.invokevirtual 83, 3) := by decide +kernel
theorem dL_law_1269 : decode cL_law 1269 = .ok (.iload 5, 2) := by decide +kernel
theorem dL_law_1271 : decode cL_law 1271 = .ok (.if_icmp .eq 5, 3) := by decide +kernel
theorem dL_law_1274 : decode cL_law 1274 = .ok (.iconst 0, 1) := by decide +kernel
theorem dL_law_1275 : decode cL_law 1275 = .ok (.ireturn, 1) := by decide +kernel
theorem dL_law_1276 : decode cL_law 1276 = .ok (.iload 5, 2) := by decide +kernel
theorem dL_law_1278 : decode cL_law 1278 = .ok (.ifCond .ne 15, 3) := by decide +kernel
theorem dL_law_1281 : decode cL_law 1281 = .ok (.aload_n 3, 1) := by decide +kernel
theorem dL_law_1282 : decode cL_law 1282 = .ok (.iconst 0, 1) := by decide +kernel
theorem dL_law_1283 : decode cL_law 1283 = .ok (.laload, 1) := by decide +kernel
theorem dL_law_1284 : decode cL_law 1284 = .ok (.iload 6, 2) := by decide +kernel
theorem dL_law_1286 : decode cL_law 1286 = .ok (.i2l, 1) := by decide +kernel
theorem dL_law_1287 : decode cL_law 1287 = .ok (.lcmp, 1) := by decide +kernel
theorem dL_law_1288 : decode cL_law 1288 = .ok (.ifCond .eq 5, 3) := by decide +kernel
theorem dL_law_1291 : decode cL_law 1291 = .ok (.iconst 0, 1) := by decide +kernel
theorem dL_law_1292 : decode cL_law 1292 = .ok (.ireturn, 1) := by decide +kernel
theorem dL_law_1293 : decode cL_law 1293 = .ok (.goto 58, 3) := by decide +kernel
theorem dL_law_1296 : decode cL_law 1296 = .ok (.aload_n 1, 1) := by decide +kernel
theorem dL_law_1297 : decode cL_law 1297 = .ok (.invokevirtual 140, 3) := by decide +kernel
theorem dL_law_1300 : decode cL_law 1300 = .ok (.dstore 5, 2) := by decide +kernel
theorem dL_law_1302 : decode cL_law 1302 = .ok (.aload_n 2, 1) := by decide +kernel
theorem dL_law_1303 : decode cL_law 1303 = .ok (.invokevirtual 144, 3) := by decide +kernel
theorem dL_law_1306 : decode cL_law 1306 = .ok (.dstore 7, 2) := by decide +kernel
theorem dL_law_1308 : decode cL_law 1308 = .ok (.dload 5, 2) := by decide +kernel
theorem dL_law_1310 : decode cL_law 1310 = .ok (.dload 7, 2) := by decide +kernel
theorem dL_law_1312 : decode cL_law 1312 = .ok (.dcmp .l, 1) := by decide +kernel
theorem dL_law_1313 : decode cL_law 1313 = .ok (.ifCond .eq 21, 3) := by decide +kernel
theorem dL_law_1316 : decode cL_law 1316 = .ok (.dload 5, 2) := by decide +kernel
theorem dL_law_1318 : decode cL_law 1318 = .ok (.dload 5, 2) := by decide +kernel
theorem dL_law_1320 : decode cL_law 1320 = .ok (.dcmp .l, 1) := by decide +kernel
theorem dL_law_1321 : decode cL_law 1321 = .ok (.ifCond .eq 11, 3) := by decide +kernel
theorem dL_law_1324 : decode cL_law 1324 = .ok (.dload 7, 2) := by decide +kernel
theorem dL_law_1326 : decode cL_law 1326 = .ok (.dload 7, 2) := by decide +kernel
theorem dL_law_1328 : decode cL_law 1328 = .ok (.dcmp .l, 1) := by decide +kernel
theorem dL_law_1329 : decode cL_law 1329 = .ok (.ifCond .ne 5, 3) := by decide +kernel
theorem dL_law_1332 : decode cL_law 1332 = .ok (.iconst 0, 1) := by decide +kernel
theorem dL_law_1333 : decode cL_law 1333 = .ok (.ireturn, 1) := by decide +kernel
theorem dL_law_1334 : decode cL_law 1334 = .ok (.goto 17, 3) := by decide +kernel
theorem dL_law_1337 : decode cL_law 1337 = .ok (.aload_n 1, 1) := by decide +kernel
theorem dL_law_1338 : decode cL_law 1338 = .ok (.invokevirtual 145, 3) := by decide +kernel
theorem dL_law_1341 : decode cL_law 1341 = .ok (.aload_n 2, 1) := by decide +kernel
theorem dL_law_1342 : decode cL_law 1342 = .ok (.invokevirtual 149, 3) := by decide +kernel
theorem dL_law_1345 : decode cL_law 1345 = .ok (.lcmp, 1) := by decide +kernel
theorem dL_law_1346 : decode cL_law 1346 = .ok (.ifCond .eq 5, 3) := by decide +kernel
theorem dL_law_1349 : decode cL_law 1349 = .ok (.iconst 0, 1) := by decide +kernel
theorem dL_law_1350 : decode cL_law 1350 = .ok (.ireturn, 1) := by decide +kernel
theorem dL_law_1351 : decode cL_law 1351 = .ok (.iinc 4 4, 3) := by decide +kernel
theorem dL_law_1354 : decode cL_law 1354 = .ok (.goto (-1331), 3) := by decide +kernel
theorem dL_law_1357 : decode cL_law 1357 = .ok (.iconst 1, 1) := by decide +kernel
theorem dL_law_1358 : decode cL_law 1358 = .ok (.ireturn, 1) := by decide +kernel
end
section
/-! THE FLAT WORLD: every object and array has a name (kind, a, b); a memory m tells each one's numbers; the references are fixed by the names. -/
abbrev ZN : Type := Nat × Nat × Nat
abbrev ZM : Type := ZN → Nat → Int32
/-- what the cell of a name holds: cy the arrays' classes, ad the addresses, w its numbers -/
def zc (cy : Nat → ClassId) (ad : ZN → Nat) (n : ZN) (w : Nat → Int32) : va_E := match n.1 with
  | 0 => .inr (6, [.ref (ad (1, 0, 0)), .ref (ad (1, 1, 0))])
  | 1 => .inr (5, [.ref (ad (2, n.2.1, 24)), .ref (ad (3, n.2.1, 0)), .ref (ad (8, n.2.1, 0)), .ref (ad (11, n.2.1, 0)), .ref (ad (7, n.2.1, 45)), .ref (ad (7, n.2.1, 46)), .int (w 6), .int (w 7), .int (w 8), .int (w 9), .int (w 10), .int (w 11)])
  | 2 => .inl (cy 0, n.2.2, .inl w)
  | 3 => .inl (cy 1, 4, .inr (.inr (.inr (.inr (fun i => some (ad (4, n.2.1, i)))))))
  | 4 => .inr (0, [.ref (ad (5, n.2.1, n.2.2)), .ref (ad (7, n.2.1, 3 * n.2.2)), .ref (ad (7, n.2.1, 3 * n.2.2 + 1)), .ref (ad (7, n.2.1, 3 * n.2.2 + 2)), .int (w 4), .int (w 5), .int (w 6), .int (w 7), .int (w 8)])
  | 5 => .inl (cy 4, 4, .inr (.inr (.inr (.inr (fun j => some (ad (6, n.2.1, 4 * n.2.2 + j)))))))
  | 6 => .inr (4, [.int (w 0), .int (w 1), .int (w 2)])
  | 7 => .inr (3, [.int (w 0), .int (w 1)])
  | 8 => .inr (1, [.ref (ad (9, n.2.1, 0)), .int (w 1), .int (w 2)])
  | 9 => .inl (cy 2, 30, .inr (.inr (.inr (.inr (fun i => some (ad (10, n.2.1, i)))))))
  | 10 => .inr (2, [.ref (ad (7, n.2.1, 12 + n.2.2)), .int (w 1)])
  | 11 => .inl (cy 3, 3, .inr (.inr (.inr (.inr (fun i => some (ad (7, n.2.1, 42 + i)))))))
  | 12 => .inr (8, [.int (w 0), .ref (ad (13, 0, 0)), .ref (ad (13, 1, 0)), .ref (ad (2, 60, 2)), .int (w 4), .int (w 5), .int (w 6)])
  | 13 => .inr (7, [.int (w 0), .int (w 1), .int (w 2), .ref (ad (2, 10 + 20 * n.2.1, 24)), .int (w 4), .ref (ad (2, 11 + 20 * n.2.1, 4)), .ref (ad (2, 12 + 20 * n.2.1, 16)), .ref (ad (2, 13 + 20 * n.2.1, 16)), .ref (ad (2, 14 + 20 * n.2.1, 16)), .ref (ad (2, 15 + 20 * n.2.1, 4)), .ref (ad (2, 16 + 20 * n.2.1, 4)), .ref (ad (2, 17 + 20 * n.2.1, 4)), .ref (ad (2, 18 + 20 * n.2.1, 4)), .ref (ad (2, 19 + 20 * n.2.1, 24)), .int (w 14), .ref (ad (2, 20 + 20 * n.2.1, 90)), .ref (ad (2, 21 + 20 * n.2.1, 6)), .int (w 17)])
  | _ => .inl (cy 5, 1, .inr (.inl (fun j => (w j).toInt64)))
/-- the classes of the arrays -/
def ztys (cy : Nat → ClassId) : List (ClassId × FieldType) := [(cy 0, .int), (cy 1, .object "StampWorks$Box"), (cy 2, .object "StampWorks$Lot"), (cy 3, .object "StampWorks$Ore"), (cy 4, .object "StampWorks$Stamp"), (cy 5, .long)]
/-- the world: the cells of the names in L -/
def zw (cy : Nat → ClassId) (ad : ZN → Nat) (L : List ZN) (m : ZM) : va_W := L.map (fun n => (ad n, zc cy ad n (m n)))
def zu (m : ZM) (n : ZN) (w : Nat → Int32) : ZM := fun n' => if n' = n then w else m n'
/-- the number k of the thing n becomes x -/
def zs (m : ZM) (n : ZN) (k : Nat) (x : Int32) : ZM := zu m n (upd (m n) k x)
theorem zw_get {cy : Nat → ClassId} {ad : ZN → Nat} {L : List ZN} {m : ZM} {n : ZN} (h : n ∈ L) : ∃ k : Nat, L[k]? = some n ∧ (zw cy ad L m)[k]? = some (ad n, zc cy ad n (m n)) := by
  obtain ⟨k, hk⟩ := List.getElem?_of_mem h
  exact ⟨k, hk, by simp [zw, hk]⟩
theorem zw_of {cy : Nat → ClassId} {ad : ZN → Nat} {L : List ZN} {m : ZM} {k : Nat} {q : Nat × va_E} (h : (zw cy ad L m)[k]? = some q) : ∃ n, L[k]? = some n ∧ q = (ad n, zc cy ad n (m n)) := by
  simp only [zw, List.getElem?_map] at h
  cases hn : L[k]? with
  | none => rw [hn] at h; cases h
  | some n =>
    rw [hn] at h
    exact ⟨n, rfl, (Option.some.inj h).symm⟩
theorem zw_mem {cy : Nat → ClassId} {ad : ZN → Nat} {L : List ZN} {m : ZM} {k : Nat} {q : Nat × va_E} (h : (zw cy ad L m)[k]? = some q) : ∃ n, n ∈ L ∧ q.1 = ad n := by
  obtain ⟨n, h1, h2⟩ := zw_of h
  exact ⟨n, List.mem_of_getElem? h1, by rw [h2]⟩
theorem zw_set {cy : Nat → ClassId} {ad : ZN → Nat} {L : List ZN} {m : ZM} {A : Nat → Prop} (hD : va_D A (zw cy ad L m)) {n : ZN} {k : Nat} (hk : L[k]? = some n) (w : Nat → Int32) : (zw cy ad L m).set k (ad n, zc cy ad n w) = zw cy ad L (zu m n w) := by
  have hk0 : (zw cy ad L m)[k]? = some (ad n, zc cy ad n (m n)) := by simp [zw, hk]
  have hl := (List.getElem?_eq_some_iff.mp hk0).1
  apply List.ext_getElem?
  intro j
  by_cases hj : j = k
  · subst hj
    rw [List.getElem?_set_self hl]
    simp [zw, hk, zu]
  · rw [List.getElem?_set_ne (Ne.symm hj)]
    cases hn : L[j]? with
    | none => simp [zw, hn]
    | some n' =>
      have hne : n' ≠ n := by
        intro e
        subst e
        have h2 : (zw cy ad L m)[j]? = some (ad n', zc cy ad n' (m n')) := by simp [zw, hn]
        exact hj (hD.1 j k _ _ h2 hk0 rfl)
      simp [zw, hn, zu, hne]
/-- the addresses that a method may write to -/
def zA (ad : ZN → Nat) (L : List ZN) (sz : Nat) : Nat → Prop := fun q => (∃ n, n ∈ L ∧ q = ad n) ∨ sz ≤ q
theorem zA_le {ad : ZN → Nat} {L : List ZN} {sz sz1 : Nat} (h : sz ≤ sz1) {q : Nat} (hq : zA ad L sz1 q) : zA ad L sz q := hq.elim Or.inl (fun h1 => Or.inr (Nat.le_trans h h1))
theorem zA_lt {ad : ZN → Nat} {L : List ZN} {sz sz1 : Nat} {q : Nat} (h : q < sz1) (hq : zA ad L sz1 q) : zA ad L sz q := hq.elim Or.inl (fun h1 => absurd h (Nat.not_lt.mpr h1))
/-- the private fields of a nest mate that the reference looks at -/
def znest : List Cond := [(93, "hour", "I"), (100, "pond", "I"), (38, "sluice", "I"), (35, "inflow", "[I"), (41, "boxes", "I"), (54, "stamps", "[I"), (57, "weight", "[I"), (60, "cams", "[I"), (63, "wear", "[I"), (44, "feed", "[I"), (66, "goes", "[I"), (47, "hardness", "[I"), (72, "force", "[I"), (69, "ore", "[I"), (79, "lots", "I"), (86, "lot", "[I"), (129, "buddle", "[I"), (109, "slime", "I")].map (fun q => Cond.fieldLinkNest RX8 q.1 "StampWorksModel$State" q.2.1 q.2.2 "StampWorksModel")
/-- .. and the private methods -/
def znestM : List Cond := [(RX0, 17, yX4_init), (RX0, 20, yX3_init), (RX2, 9, yX3_init), (RX5, 35, yX3_init), (RX3, 16, yX6_gradeOf), (RX3, 35, yX6_partOf), (RX5, 139, yX6_rockOfHead), (RX5, 142, yX6_tinOfHead), (RX5, 159, yX6_partOf), (RX5, 163, yX6_gradeOf)].map (fun q => Cond.methodLinkNest q.1 q.2.1 q.2.2 "StampWorks")
def zNw (U : State) : Prop := (∀ w ∈ znest, va_Nw w U) ∧ ∀ w ∈ znestM, va_Nw w U
theorem zNw_warm {s U : State} (hW : s.WarmedH U.vm) (h : zNw s) : zNw U := by
  refine ⟨fun w hw => ?_, fun w hw => ?_⟩
  · have h1 := h.1 w hw
    obtain ⟨q, -, rfl⟩ := List.mem_map.mp hw
    exact va_Nw.warmF hW h1
  · have h1 := h.2 w hw
    obtain ⟨q, -, rfl⟩ := List.mem_map.mp hw
    exact va_Nw.warmM hW h1
theorem zNw_same {u U : State} (hv : u.vm = U.vm) (h : zNw u) : zNw U := by
  refine ⟨fun w hw => ?_, fun w hw => ?_⟩
  · have h1 := h.1 w hw
    obtain ⟨q, -, rfl⟩ := List.mem_map.mp hw
    exact va_Nw.same rfl hv h1
  · have h1 := h.2 w hw
    obtain ⟨q, -, rfl⟩ := List.mem_map.mp hw
    exact va_Nw.same rfl hv h1
theorem znest_at (i : Nat) {w : Cond} (h : znest[i]? = some w) : w ∈ znest := List.mem_of_getElem? h
theorem znestM_at (i : Nat) {w : Cond} (h : znestM[i]? = some w) : w ∈ znestM := List.mem_of_getElem? h
/-- what the rows need of the machine -/
def zX (p : Program) (s : State) (mi : MethodId) (args : Array Value) (c : Code) (cc : ByteArray) (own : String) (D : va_G) (cy : Nat → ClassId) : Prop :=
  p.tables.exec = Jvm.exec ∧ c.code = cc ∧ (∀ w ∈ wsL_law, w.before args s = true) ∧ s.vm.findClass own = some mi.cls ∧ va_K D vwCl (ztys cy) s ∧ zNw s
/-- the world in the heap -/
def zH (D : va_G) (cy : Nat → ClassId) (ad : ZN → Nat) (L : List ZN) (H0 H : Heap) (locs : List Loc) (m : ZM) : Prop :=
  va_P D vwCl (zw cy ad L m) H ∧ va_D (zA ad L H0.size) (zw cy ad L m) ∧ va_S (zA ad L H0.size) H0 H locs
section ZR
variable {p : Program} {l : Launch} {e : Env} {R : Room} {s : State} {mi : MethodId} {args : Array Value} {below : List Frame} {meth : Method} {c : Code} {H H0 : Heap} {locs : List Loc} {cells slots : Nat} {Q : State → Prop}
variable {cc : ByteArray} {own : String} {pc : Nat} {ls : Array Slot} {rest : List Value} {D : va_G} {cy : Nat → ClassId} {ad : ZN → Nat} {L : List ZN} {m : ZM} {n : ZN}
theorem zget (C : zX p s mi args c cc own D cy) (hw : zH D cy ad L H0 H locs m) (hn : n ∈ L) {ci : Nat} {fs : List Value} (hc : zc cy ad n (m n) = .inr (ci, fs)) {Cn ref : String} {T : u_T} {N : Nat} (hcl : vwCl[ci]? = some (Cn, T, N)) (hin : ∀ w ∈ u_ws Cn T N, w ∈ wsL_law) {index : Nat} (k : Nat) (hk : k < N)
    (hl : Cond.fieldLink own index ref (T k).2.1 (T k).2.2.1 ∈ wsL_law) (href : (T k).1 = ref) {v : Value} (hv : fs[k]? = some v) (hdg : decode cc pc = .ok (.getfield index, 3))
    (kk : W p l e R s mi args below meth c H locs cells slots Q (F0 mi (pc + 3) ls (v :: rest))) : W p l e R s mi args below meth c H locs cells slots Q (F0 mi pc ls (.ref (ad n) :: rest)) := by
  obtain ⟨hx, hb, hts, hown, hK, hNw⟩ := C
  obtain ⟨k0, -, h0⟩ := zw_get (cy := cy) (ad := ad) (m := m) hn
  rw [hc] at h0
  exact va_get hx hb hts hin hown hK hw.1 k0 h0 hcl k hk (hts _ hl) (fun _ h => by rw [← href]; exact h) hv hdg kk
theorem zH_set (hw : zH D cy ad L H0 H locs m) {k : Nat} (hk : L[k]? = some n) {w : Nat → Int32} {H1 : Heap} {locs1 : List Loc} (hP : va_P D vwCl ((zw cy ad L m).set k (ad n, zc cy ad n w)) H1) (hD : va_D (zA ad L H0.size) ((zw cy ad L m).set k (ad n, zc cy ad n w))) (hS : va_S (zA ad L H0.size) H0 H1 locs1) : zH D cy ad L H0 H1 locs1 (zu m n w) := by
  rw [zw_set hw.2.1 hk] at hP hD
  exact ⟨hP, hD, hS⟩
theorem zput (C : zX p s mi args c cc own D cy) (hw : zH D cy ad L H0 H locs m) (hn : n ∈ L) {ci : Nat} {fs : List Value} (hc : zc cy ad n (m n) = .inr (ci, fs)) {Cn ref : String} {T : u_T} {N : Nat} (hcl : vwCl[ci]? = some (Cn, T, N)) (hin : ∀ w ∈ u_ws Cn T N, w ∈ wsL_law) {index : Nat} (k : Nat) (hk : k < N)
    (hl : Cond.fieldLink own index ref (T k).2.1 (T k).2.2.1 ∈ wsL_law) (href : (T k).1 = ref) (ty0 : Nat → FieldType) (hty : ∀ k, k < N → parseFieldDescriptor (T k).2.2.1 = some (ty0 k)) (hnm : ∀ a, a < N → ∀ b, b < N → a ≠ b → (T a).2.1 ≠ (T b).2.1) (hfin : (T k).2.2.2 = false) (hd : parseFieldDescriptor (T k).2.2.1 = some .int)
    {x : Int32} (hlen : k < fs.length) (hset : zc cy ad n (upd (m n) k x) = .inr (ci, fs.set k (.int x))) (hdg : decode cc pc = .ok (.putfield index, 3))
    (kk : ∀ (H1 : Heap) (locs1 : List Loc) (m1 : ZM), m1 = zs m n k x → zH D cy ad L H0 H1 locs1 m1 → W p l e R s mi args below meth c H1 locs1 cells slots Q (F0 mi (pc + 3) ls rest)) : W p l e R s mi args below meth c H locs cells slots Q (F0 mi pc ls (.int x :: .ref (ad n) :: rest)) := by
  obtain ⟨hx, hb, hts, hown, hK, hNw⟩ := C
  obtain ⟨k0, hk0, h0⟩ := zw_get (cy := cy) (ad := ad) (m := m) hn
  rw [hc] at h0
  refine va_put hx hb hts hin ty0 hty hnm hown hK hw.1 hw.2.1 hw.2.2 k0 h0 hcl k hk (hts _ hl) (fun _ h => by rw [← href]; exact h) hfin (ty := .int) (v := .int x) hd rfl rfl hlen hdg (fun H1 locs1 hP hD hS => ?_)
  rw [← hset] at hP hD
  exact kk H1 locs1 _ rfl (zH_set hw hk0 hP hD hS)
theorem zgetN (C : zX p s mi args c cc own D cy) (hw : zH D cy ad L H0 H locs m) (hn : n ∈ L) {ci : Nat} {fs : List Value} (hc : zc cy ad n (m n) = .inr (ci, fs)) {Cn ref host : String} {T : u_T} {N : Nat} (hcl : vwCl[ci]? = some (Cn, T, N)) (hin : ∀ w ∈ u_ws Cn T N, w ∈ wsL_law) {index : Nat} (k : Nat) (hk : k < N)
    (hl : Cond.fieldLinkNest own index ref (T k).2.1 (T k).2.2.1 host ∈ znest) (href : (T k).1 = ref) {v : Value} (hv : fs[k]? = some v) (hdg : decode cc pc = .ok (.getfield index, 3))
    (kk : W p l e R s mi args below meth c H locs cells slots Q (F0 mi (pc + 3) ls (v :: rest))) : W p l e R s mi args below meth c H locs cells slots Q (F0 mi pc ls (.ref (ad n) :: rest)) := by
  obtain ⟨hx, hb, hts, hown, hK, hNw⟩ := C
  obtain ⟨k0, -, h0⟩ := zw_get (cy := cy) (ad := ad) (m := m) hn
  rw [hc] at h0
  exact va_getN hx hb hts hin hown hK hw.1 k0 h0 hcl k hk (va_Nw.use rfl (hNw.1 _ hl)) (fun _ h => by rw [← href]; exact h) hv hdg kk
theorem zputN (C : zX p s mi args c cc own D cy) (hw : zH D cy ad L H0 H locs m) (hn : n ∈ L) {ci : Nat} {fs : List Value} (hc : zc cy ad n (m n) = .inr (ci, fs)) {Cn ref host : String} {T : u_T} {N : Nat} (hcl : vwCl[ci]? = some (Cn, T, N)) (hin : ∀ w ∈ u_ws Cn T N, w ∈ wsL_law) {index : Nat} (k : Nat) (hk : k < N)
    (hl : Cond.fieldLinkNest own index ref (T k).2.1 (T k).2.2.1 host ∈ znest) (href : (T k).1 = ref) (ty0 : Nat → FieldType) (hty : ∀ k, k < N → parseFieldDescriptor (T k).2.2.1 = some (ty0 k)) (hnm : ∀ a, a < N → ∀ b, b < N → a ≠ b → (T a).2.1 ≠ (T b).2.1) (hfin : (T k).2.2.2 = false) (hd : parseFieldDescriptor (T k).2.2.1 = some .int)
    {x : Int32} (hlen : k < fs.length) (hset : zc cy ad n (upd (m n) k x) = .inr (ci, fs.set k (.int x))) (hdg : decode cc pc = .ok (.putfield index, 3))
    (kk : ∀ (H1 : Heap) (locs1 : List Loc) (m1 : ZM), m1 = zs m n k x → zH D cy ad L H0 H1 locs1 m1 → W p l e R s mi args below meth c H1 locs1 cells slots Q (F0 mi (pc + 3) ls rest)) : W p l e R s mi args below meth c H locs cells slots Q (F0 mi pc ls (.int x :: .ref (ad n) :: rest)) := by
  obtain ⟨hx, hb, hts, hown, hK, hNw⟩ := C
  obtain ⟨k0, hk0, h0⟩ := zw_get (cy := cy) (ad := ad) (m := m) hn
  rw [hc] at h0
  refine va_putN hx hb hts hin ty0 hty hnm hown hK hw.1 hw.2.1 hw.2.2 k0 h0 hcl k hk (va_Nw.use rfl (hNw.1 _ hl)) (fun _ h => by rw [← href]; exact h) hfin (ty := .int) (v := .int x) hd rfl rfl hlen hdg (fun H1 locs1 hP hD hS => ?_)
  rw [← hset] at hP hD
  exact kk H1 locs1 _ rfl (zH_set hw hk0 hP hD hS)
theorem zald (C : zX p s mi args c cc own D cy) (hw : zH D cy ad L H0 H locs m) {id len : Nat} (hn : (2, id, len) ∈ L) {i : Int32} (hi : vp_in i len) (hdg : decode cc pc = .ok (.iaload, 1))
    (kk : W p l e R s mi args below meth c H locs cells slots Q (F0 mi (pc + 1) ls (.int (m (2, id, len) i.toNatClampNeg) :: rest))) : W p l e R s mi args below meth c H locs cells slots Q (F0 mi pc ls (.int i :: .ref (ad (2, id, len)) :: rest)) := by
  obtain ⟨hx, hb, hts, hown, hK, hNw⟩ := C
  obtain ⟨k0, -, h0⟩ := zw_get (cy := cy) (ad := ad) (m := m) hn
  exact va_iald hx hb hK hw.1 k0 0 (f := m (2, id, len)) h0 rfl hi hdg kk
theorem zast (C : zX p s mi args c cc own D cy) (hw : zH D cy ad L H0 H locs m) {id len : Nat} (hn : (2, id, len) ∈ L) {i x : Int32} (hi : vp_in i len) (hdg : decode cc pc = .ok (.iastore, 1))
    (kk : ∀ (H1 : Heap) (locs1 : List Loc) (m1 : ZM), m1 = zs m (2, id, len) i.toNatClampNeg x → zH D cy ad L H0 H1 locs1 m1 → W p l e R s mi args below meth c H1 locs1 cells slots Q (F0 mi (pc + 1) ls rest)) : W p l e R s mi args below meth c H locs cells slots Q (F0 mi pc ls (.int x :: .int i :: .ref (ad (2, id, len)) :: rest)) := by
  obtain ⟨hx, hb, hts, hown, hK, hNw⟩ := C
  obtain ⟨k0, hk0, h0⟩ := zw_get (cy := cy) (ad := ad) (m := m) hn
  exact va_iast hx hb hK hw.1 hw.2.1 hw.2.2 k0 0 (f := m (2, id, len)) h0 rfl hi hdg (fun H1 locs1 hP hD hS => kk H1 locs1 _ rfl (zH_set (n := (2, id, len)) (w := upd (m (2, id, len)) i.toNatClampNeg x) hw hk0 hP hD hS))
theorem zlen (C : zX p s mi args c cc own D cy) (hw : zH D cy ad L H0 H locs m) {id len : Nat} (hn : (2, id, len) ∈ L) (hdg : decode cc pc = .ok (.arraylength, 1))
    (kk : W p l e R s mi args below meth c H locs cells slots Q (F0 mi (pc + 1) ls (.int (nI len) :: rest))) : W p l e R s mi args below meth c H locs cells slots Q (F0 mi pc ls (.ref (ad (2, id, len)) :: rest)) := by
  obtain ⟨hx, hb, hts, hown, hK, hNw⟩ := C
  obtain ⟨k0, -, h0⟩ := zw_get (cy := cy) (ad := ad) (m := m) hn
  exact va_alen hx hb hK hw.1 k0 0 (x := (len, .inl (m (2, id, len)))) h0 rfl rfl hdg kk
theorem zald_q (C : zX p s mi args c cc own D cy) (hw : zH D cy ad L H0 H locs m) (hn : n ∈ L) (t0 : Nat) {cA : ClassId} {Cn : String} {N : Nat} {f : Nat → Nat} (hc : zc cy ad n (m n) = .inl (cA, N, .inr (.inr (.inr (.inr (fun i => some (f i))))))) (ht : (ztys cy)[t0]? = some (cA, .object Cn)) {i : Int32} (hi : vp_in i N) (hdg : decode cc pc = .ok (.aaload, 1))
    (kk : W p l e R s mi args below meth c H locs cells slots Q (F0 mi (pc + 1) ls (.ref (f i.toNatClampNeg) :: rest))) : W p l e R s mi args below meth c H locs cells slots Q (F0 mi pc ls (.int i :: .ref (ad n) :: rest)) := by
  obtain ⟨hx, hb, hts, hown, hK, hNw⟩ := C
  obtain ⟨k0, -, h0⟩ := zw_get (cy := cy) (ad := ad) (m := m) hn
  rw [hc] at h0
  exact va_aldq hx hb hK hw.1 k0 t0 h0 ht hi hdg kk
theorem zald_3 (C : zX p s mi args c cc own D cy) (hw : zH D cy ad L H0 H locs m) {a b : Nat} (hn : (3, a, b) ∈ L) {i : Int32} (hi : vp_in i 4) (hdg : decode cc pc = .ok (.aaload, 1))
    (kk : W p l e R s mi args below meth c H locs cells slots Q (F0 mi (pc + 1) ls (.ref (ad (4, a, i.toNatClampNeg)) :: rest))) : W p l e R s mi args below meth c H locs cells slots Q (F0 mi pc ls (.int i :: .ref (ad (3, a, b)) :: rest)) := zald_q (n := (3, a, b)) (f := fun i => ad (4, a, i)) C hw hn 1 rfl rfl hi hdg kk
theorem zald_5 (C : zX p s mi args c cc own D cy) (hw : zH D cy ad L H0 H locs m) {a b : Nat} (hn : (5, a, b) ∈ L) {i : Int32} (hi : vp_in i 4) (hdg : decode cc pc = .ok (.aaload, 1))
    (kk : W p l e R s mi args below meth c H locs cells slots Q (F0 mi (pc + 1) ls (.ref (ad (6, a, 4 * b + i.toNatClampNeg)) :: rest))) : W p l e R s mi args below meth c H locs cells slots Q (F0 mi pc ls (.int i :: .ref (ad (5, a, b)) :: rest)) := zald_q (n := (5, a, b)) (f := fun i => ad (6, a, 4 * b + i)) C hw hn 4 rfl rfl hi hdg kk
theorem zald_9 (C : zX p s mi args c cc own D cy) (hw : zH D cy ad L H0 H locs m) {a b : Nat} (hn : (9, a, b) ∈ L) {i : Int32} (hi : vp_in i 30) (hdg : decode cc pc = .ok (.aaload, 1))
    (kk : W p l e R s mi args below meth c H locs cells slots Q (F0 mi (pc + 1) ls (.ref (ad (10, a, i.toNatClampNeg)) :: rest))) : W p l e R s mi args below meth c H locs cells slots Q (F0 mi pc ls (.int i :: .ref (ad (9, a, b)) :: rest)) := zald_q (n := (9, a, b)) (f := fun i => ad (10, a, i)) C hw hn 2 rfl rfl hi hdg kk
theorem zald_11 (C : zX p s mi args c cc own D cy) (hw : zH D cy ad L H0 H locs m) {a b : Nat} (hn : (11, a, b) ∈ L) {i : Int32} (hi : vp_in i 3) (hdg : decode cc pc = .ok (.aaload, 1))
    (kk : W p l e R s mi args below meth c H locs cells slots Q (F0 mi (pc + 1) ls (.ref (ad (7, a, 42 + i.toNatClampNeg)) :: rest))) : W p l e R s mi args below meth c H locs cells slots Q (F0 mi pc ls (.int i :: .ref (ad (11, a, b)) :: rest)) := zald_q (n := (11, a, b)) (f := fun i => ad (7, a, 42 + i)) C hw hn 3 rfl rfl hi hdg kk
end ZR
/-! contracts over the flat world -/
def zPc (D : va_G) (cy : Nat → ClassId) (ad : ZN → Nat) (L : List ZN) (m : ZM) (sz : Nat) (av : List Value) : Array Value → State → Prop := va_Pc av (fun U => U.heap.size = sz ∧ va_P D vwCl (zw cy ad L m) U.heap ∧ va_K D vwCl (ztys cy) U ∧ va_D (fun _ => True) (zw cy ad L m) ∧ zNw U)
def zB (D : va_G) (cy : Nat → ClassId) (ad : ZN → Nat) (L : List ZN) (sz : Nat) (m : ZM) (t : State) : Prop := va_P D vwCl (zw cy ad L m) t.heap ∧ va_K D vwCl (ztys cy) t ∧ va_D (zA ad L sz) (zw cy ad L m)
/-- a method's words: its code, and all that the law's walk links -/
abbrev zws (y : MethodName) (b : ByteArray) (maxL : Nat) (ret : Option FieldType) : List Cond := Cond.code y b maxL ret :: wsL_law
abbrev zQi (post : Int32 → ZM → Prop) (D : va_G) (cy : Nat → ClassId) (ad : ZN → Nat) (L : List ZN) (sz : Nat) : Array Value → State → Outcome → State → Prop := va_Qi post (zB D cy ad L sz) (zA ad L sz)
abbrev zQl (post : Int64 → ZM → Prop) (D : va_G) (cy : Nat → ClassId) (ad : ZN → Nat) (L : List ZN) (sz : Nat) : Array Value → State → Outcome → State → Prop := va_Ql post (zB D cy ad L sz) (zA ad L sz)
abbrev zQv (post : ZM → Prop) (D : va_G) (cy : Nat → ClassId) (ad : ZN → Nat) (L : List ZN) (sz : Nat) : Array Value → State → Outcome → State → Prop := va_Qv post (zB D cy ad L sz) (zA ad L sz)
abbrev zQr (post : Nat → ZM → Prop) (D : va_G) (cy : Nat → ClassId) (ad : ZN → Nat) (L : List ZN) (sz : Nat) : Array Value → State → Outcome → State → Prop := va_Qr (S := ZM) (fun _ => True) (fun m a t => post a m ∧ zB D cy ad L sz m t) (zA ad L sz)
theorem zPc_blind {D : va_G} {cy : Nat → ClassId} {ad : ZN → Nat} {L : List ZN} {m : ZM} {sz : Nat} {av : List Value} : FrameBlind (zPc D cy ad L m sz av) := fun a U g mk q => by
  obtain ⟨q0, q1, qP, qK, qD, qN⟩ := q
  exact ⟨q0, q1, qP, va_K.moved (u := U) (U := U.calling g mk a) (Vm.Alike.refl U.vm) qK, qD, zNw_same (u := U) (U := U.calling g mk a) rfl qN⟩
/-- how a method is opened -/
theorem zopen {l : Launch} {y : MethodName} {b : ByteArray} {maxL : Nat} {ret : Option FieldType} {rm : Room} {D : va_G} {cy : Nat → ClassId} {ad : ZN → Nat} {L : List ZN} {m : ZM} {sz : Nat} {av : List Value} {Qc : Nat → Array Value → State → Outcome → State → Prop} {mc ms : Nat} (own : String)
    (hy : plainName y.cls = true) (hown : y.cls = own) (hn : (lg_sl av).length ≤ maxL)
    (body : ∀ (p : Program) (e : Env) (s : State) (mi : MethodId) (below : List Frame) (meth : Method) (c : Code) (ls : Array Slot), zX p s mi av.toArray c b own D cy → meth.sig.returnType = ret → meth.locks = false → c.maxLocals = maxL → lv_has ls maxL (lv_args 0 av) → ∀ (H : Heap) (locs : List Loc), zH D cy ad L s.heap H locs m →
      W p l e rm s mi av.toArray below meth c H locs 0 0 (MQ below (Qc s.heap.size) av.toArray s mc ms (zA ad L s.heap.size)) (F0 mi 0 ls [])) :
    Met l y (zws y b maxL ret) rm (zPc D cy ad L m sz av) (Qc sz) mc ms (zA ad L sz) := by
  refine Met.ofW (cc := b) (maxL := maxL) (ret := ret) hy rfl ?_
  intro p e s mi args below meth c s₁ B hml hv
  obtain ⟨rfl, hsz, hP, hK, hD0, hNw⟩ := hv
  subst hsz
  have hts := atoms_spec (ws := zws y b maxL ret) B.pre
  have hD : va_D (zA ad L s.heap.size) (zw cy ad L m) := hD0.weaken (fun k q h _ => by
    obtain ⟨n, h1, h2⟩ := zw_mem h
    exact Or.inl ⟨n, h1, h2⟩)
  have hl := lv_entry av (n := maxL) hn
  rw [lg_entry_eq]
  have hfc : s.vm.findClass own = some mi.cls := by rw [← hown]; exact findClass_of_methodNamed B.named
  exact body p e s mi below meth c _ ⟨B.exec, B.bytes, fun w hw => hts w (List.mem_cons_of_mem _ hw), hfc, hK, hNw⟩ B.returns B.notSynchronized hml hl _ _ ⟨hP, hD, va_S.rf⟩
section ZE
variable {p : Program} {l : Launch} {e : Env} {R : Room} {s : State} {mi : MethodId} {args : Array Value} {below : List Frame} {meth : Method} {c : Code} {H H0 : Heap} {locs : List Loc} {cells slots : Nat} {Q : State → Prop}
variable {cc : ByteArray} {own : String} {pc : Nat} {ls : Array Slot} {rest : List Value} {D : va_G} {cy : Nat → ClassId} {ad : ZN → Nat} {L : List ZN} {m : ZM} {n : ZN}
theorem zB_of (C : zX p s mi args c cc own D cy) (hw : zH D cy ad L s.heap H locs m) {t : State} (ht : t.heap = H) (hW : s.WarmedH t.vm) : zB D cy ad L s.heap.size m t := ⟨by rw [ht]; exact hw.1, va_K.moved hW.alike C.2.2.2.2.1, hw.2.1⟩
theorem zret_i {post : Int32 → ZM → Prop} {r : Int32} (C : zX p s mi args c cc own D cy) (hr : meth.sig.returnType = some .int) (hlocks : meth.locks = false) (hw : zH D cy ad L s.heap H locs m) (hdg : decode cc pc = .ok (.ireturn, 1)) (hp : post r m) :
    W p l e R s mi args below meth c H locs cells slots (MQ below (zQi post D cy ad L s.heap.size) args s cells slots (zA ad L s.heap.size)) (F0 mi pc ls [.int r]) :=
  W.iret C.1 C.2.1 hr (fun t ht hW => ⟨⟨r, m, rfl, hp, zB_of C hw ht hW⟩, hw.2.2.F ht⟩) hw.2.2.2.2 hdg hlocks
/-- a boolean answer: 0 or 1 -/
theorem zret_z {post : Int32 → ZM → Prop} {r : Int32} (C : zX p s mi args c cc own D cy) (hr : meth.sig.returnType = some .boolean) (hn : narrow .boolean (.int r) = .int r) (hlocks : meth.locks = false) (hw : zH D cy ad L s.heap H locs m) (hdg : decode cc pc = .ok (.ireturn, 1)) (hp : post r m) :
    W p l e R s mi args below meth c H locs cells slots (MQ below (zQi post D cy ad L s.heap.size) args s cells slots (zA ad L s.heap.size)) (F0 mi pc ls [.int r]) :=
  W.zret C.1 C.2.1 hr hn (fun t ht hW => ⟨⟨r, m, rfl, hp, zB_of C hw ht hW⟩, hw.2.2.F ht⟩) hw.2.2.2.2 hdg hlocks
theorem zret_l {post : Int64 → ZM → Prop} {r : Int64} (C : zX p s mi args c cc own D cy) (hr : meth.sig.returnType = some .long) (hlocks : meth.locks = false) (hw : zH D cy ad L s.heap H locs m) (hdg : decode cc pc = .ok (.lreturn, 1)) (hp : post r m) :
    W p l e R s mi args below meth c H locs cells slots (MQ below (zQl post D cy ad L s.heap.size) args s cells slots (zA ad L s.heap.size)) (F0 mi pc ls [.long r]) :=
  W.lret C.1 C.2.1 hr (fun t ht hW => ⟨⟨r, m, rfl, hp, zB_of C hw ht hW⟩, hw.2.2.F ht⟩) hw.2.2.2.2 hdg hlocks
theorem zret_v {post : ZM → Prop} (C : zX p s mi args c cc own D cy) (hr : meth.sig.returnType = none) (hlocks : meth.locks = false) (hw : zH D cy ad L s.heap H locs m) (hdg : decode cc pc = .ok (.return_, 1)) (hp : post m) :
    W p l e R s mi args below meth c H locs cells slots (MQ below (zQv post D cy ad L s.heap.size) args s cells slots (zA ad L s.heap.size)) (F0 mi pc ls []) :=
  W.vret C.1 C.2.1 hr (fun t ht hW => ⟨⟨m, rfl, hp, zB_of C hw ht hW⟩, hw.2.2.F ht⟩) hw.2.2.2.2 hdg hlocks
theorem zret_r {post : Nat → ZM → Prop} {a : Nat} {Cn : String} (C : zX p s mi args c cc own D cy) (hr : meth.sig.returnType = some (.object Cn)) (hlocks : meth.locks = false) (hw : zH D cy ad L s.heap H locs m) (hdg : decode cc pc = .ok (.areturn, 1)) (hp : post a m) :
    W p l e R s mi args below meth c H locs cells slots (MQ below (zQr post D cy ad L s.heap.size) args s cells slots (zA ad L s.heap.size)) (F0 mi pc ls [.ref a]) :=
  W.aret C.1 C.2.1 hr (Or.inl ⟨Cn, rfl⟩) (Or.inr ⟨a, rfl⟩) (fun t ht hW => ⟨⟨m, a, rfl, trivial, hp, zB_of C hw ht hW⟩, hw.2.2.F ht⟩) hw.2.2.2.2 hdg hlocks
/-- what a caller hands over -/
theorem zpre (C : zX p s mi args c cc own D cy) (hw : zH D cy ad L s.heap H locs m) {av : List Value} : ∀ U : State, U.heap = H → s.WarmedH U.vm → zPc D cy ad L m H.size av av.toArray U := fun U hU hW =>
  ⟨rfl, by rw [hU], by rw [hU]; exact hw.1, va_K.moved hW.alike C.2.2.2.2.1, hw.2.1.weaken (fun _ _ _ _ => trivial), zNw_warm hW C.2.2.2.2.2⟩
theorem zrecv (C : zX p s mi args c cc own D cy) (hw : zH D cy ad L s.heap H locs m) (hn : n ∈ L) {ci : Nat} {fs : List Value} (hc : zc cy ad n (m n) = .inr (ci, fs)) {q : vw_C} (hcl : vwCl[ci]? = some q) : ∃ cell : Cell, H[ad n]? = some cell ∧ cell.vm.isStatics = false ∧ s.vm.findClass q.1 = some cell.cls := by
  obtain ⟨k0, -, h0⟩ := zw_get (cy := cy) (ad := ad) (m := m) hn
  rw [hc] at h0
  exact va_recv C.2.2.2.2.1 hw.1 hcl h0
theorem zback (C : zX p s mi args c cc own D cy) (hw : zH D cy ad L s.heap H locs m) {m1 : ZM} {t : State} {H1 : Heap} {locs1 : List Loc} (ht : t.heap = H1) (hB : zB D cy ad L H.size m1 t) (hS : va_S (zA ad L s.heap.size) s.heap H1 locs1) : zH D cy ad L s.heap H1 locs1 m1 := by
  obtain ⟨h1, -, h3⟩ := hB
  rw [ht] at h1
  exact ⟨h1, h3.weaken (fun k q h _ => by
    obtain ⟨n, g1, g2⟩ := zw_mem h
    exact Or.inl ⟨n, g1, g2⟩), hS⟩
variable {y : MethodName} {b : ByteArray} {maxL nL mc ms na index : Nat} {ret : Option FieldType} {rm : Room} {av As : List Value}
theorem zhA (hw : zH D cy ad L s.heap H locs m) : (∀ q, q < H.size → zA ad L H.size q → zA ad L s.heap.size q) ∧ (∀ q, zA ad L H.size q → zA ad L s.heap.size q) := ⟨fun q h1 h2 => zA_lt h1 h2, fun q h => zA_le hw.2.2.1 h⟩
/-- the words of a virtual call, of a static one -/
abbrev zGV (own : String) (index : Nat) (Cn : String) (y : MethodName) (b : ByteArray) (maxL : Nat) (ret : Option FieldType) (na : Nat) : Prop := GoodIn wsL_law (wsV own index Cn y (zws y b maxL ret)) ∧ (y.cls = Cn ∧ y.cls ≠ "java/lang/invoke/MethodHandle" ∧ y.cls ≠ "java/lang/invoke/VarHandle" ∧ (parseMethodDescriptor y.desc).map (fun d => d.parameters.length) = some na)
abbrev zGS (own : String) (index : Nat) (y : MethodName) (b : ByteArray) (maxL : Nat) (ret : Option FieldType) (na : Nat) : Prop := GoodIn wsL_law (va_wsS own index y (zws y b maxL ret)) ∧ (y.cls ≠ "java/lang/invoke/MethodHandle" ∧ y.cls ≠ "java/lang/invoke/VarHandle" ∧ (parseMethodDescriptor y.desc).map (fun d => d.parameters.length) = some na)
variable {Qc : Array Value → State → Outcome → State → Prop} {free : Addr → Prop}
theorem zrunV (C : zX p s mi args c cc own D cy) (hml : c.maxLocals = nL) (hls : ls.size = nL) (hw : zH D cy ad L s.heap H locs m) (hn : n ∈ L) {ci : Nat} {fs : List Value} (hc : zc cy ad n (m n) = .inr (ci, fs)) {Cn : String} {T : u_T} {N : Nat} (hcl : vwCl[ci]? = some (Cn, T, N))
    (hM : Met l y (zws y b maxL ret) rm (zPc D cy ad L m H.size (.ref (ad n) :: As)) Qc mc ms free) (hG : zGV own index Cn y b maxL ret na) (hna : As.length = na) (hrc : rm.cells = mc) (hrs : rm.slots = ms) (hR : rm.frames + 1 ≤ R.frames ∧ 8 + (maxL + 11) + rm.locals ≤ R.locals) {st : List Value} (hst : st = As.reverse ++ .ref (ad n) :: rest) (hrest : (rest.map fun v => v.category).sum ≤ 8)
    (hdg : decode cc pc = .ok (.invokevirtual index, 3)) (hf : cells + mc ≤ R.cells ∧ slots + ms ≤ R.slots) :
    va_Run p l e R s mi args below meth c H locs cells slots mc ms (F0 mi pc ls st) rest (Qc (Value.ref (ad n) :: As).toArray) free :=
  va_runV (b := ad n) (As := As) (rest := rest) (nL := nL) ⟨C.1, C.2.1, hml, C.2.2.2.1, C.2.2.1⟩ hM (cwV na C.2.2.1 hG.1 rfl hrc hrs hG.2 hR) ⟨zPc_blind, zrecv C hw hn hc hcl, zpre C hw⟩ rfl hna hls hst (lv_room hrest) hdg hf
theorem zrunS (C : zX p s mi args c cc own D cy) (hml : c.maxLocals = nL) (hls : ls.size = nL) (hw : zH D cy ad L s.heap H locs m)
    (hM : Met l y (zws y b maxL ret) rm (zPc D cy ad L m H.size As) Qc mc ms free) (hG : zGS own index y b maxL ret na) (hna : As.length = na) (hrc : rm.cells = mc) (hrs : rm.slots = ms) (hR : rm.frames + 1 ≤ R.frames ∧ 8 + (maxL + 11) + rm.locals ≤ R.locals) {st : List Value} (hst : st = As.reverse ++ rest) (hrest : (rest.map fun v => v.category).sum ≤ 8)
    (hdg : decode cc pc = .ok (.invokestatic index, 3)) (hf : cells + mc ≤ R.cells ∧ slots + ms ≤ R.slots) :
    va_Run p l e R s mi args below meth c H locs cells slots mc ms (F0 mi pc ls st) rest (Qc As.toArray) free :=
  va_runS (As := As) (rest := rest) (nL := nL) ⟨C.1, C.2.1, hml, C.2.2.2.1, C.2.2.1⟩ hM (va_cwS na C.2.2.1 hG.1 rfl hrc hrs hG.2 hR) ⟨zPc_blind, zpre C hw⟩ rfl hna hls hst (lv_room hrest) hdg hf
/-- a private static method of a nest mate -/
abbrev zGN (own : String) (index : Nat) (y : MethodName) (b : ByteArray) (maxL : Nat) (ret : Option FieldType) (na : Nat) : Prop := GoodIn wsL_law (zws y b maxL ret) ∧ Cond.methodLinkNest own index y "StampWorks" ∈ znestM ∧ Cond.initialized y.cls ∈ wsL_law ∧ Cond.static y ∈ wsL_law ∧ (y.cls ≠ "java/lang/invoke/MethodHandle" ∧ y.cls ≠ "java/lang/invoke/VarHandle" ∧ (parseMethodDescriptor y.desc).map (fun d => d.parameters.length) = some na)
theorem zrunSN (C : zX p s mi args c cc own D cy) (hml : c.maxLocals = nL) (hls : ls.size = nL) (hw : zH D cy ad L s.heap H locs m)
    (hM : Met l y (zws y b maxL ret) rm (zPc D cy ad L m H.size As) Qc mc ms free) (hG : zGN own index y b maxL ret na) (hna : As.length = na) (hrc : rm.cells = mc) (hrs : rm.slots = ms) (hR : rm.frames + 1 ≤ R.frames ∧ 8 + (maxL + 11) + rm.locals ≤ R.locals) {st : List Value} (hst : st = As.reverse ++ rest) (hrest : (rest.map fun v => v.category).sum ≤ 8)
    (hdg : decode cc pc = .ok (.invokestatic index, 3)) (hf : cells + mc ≤ R.cells ∧ slots + ms ≤ R.slots) :
    va_Run p l e R s mi args below meth c H locs cells slots mc ms (F0 mi pc ls st) rest (Qc As.toArray) free :=
  va_runSN (As := As) (rest := rest) (nL := nL) (host := "StampWorks") ⟨C.1, C.2.1, hml, C.2.2.2.1, C.2.2.1⟩ hM ⟨va_cnB na C.2.2.1 hG.1 rfl hrc hrs (C.2.2.2.2.2.2 _ hG.2.1) (C.2.2.1 _ hG.2.2.1) hG.2.2.2.2 hR, C.2.2.1 _ hG.2.2.2.1, trivial⟩ ⟨zPc_blind, zpre C hw⟩ rfl hna hls hst (lv_room hrest) hdg hf
variable {st : List Value} {aa : Array Value}
theorem zafter_i {post : Int32 → ZM → Prop} (C : zX p s mi args c cc own D cy) (hw : zH D cy ad L s.heap H locs m) (hr : va_Run p l e R s mi args below meth c H locs cells slots 0 0 (F0 mi pc ls st) rest (zQi post D cy ad L H.size aa) (zA ad L H.size))
    (kk : ∀ (r : Int32) (m1 : ZM) (H1 : Heap) (locs1 : List Loc), post r m1 → zH D cy ad L s.heap H1 locs1 m1 → W p l e R s mi args below meth c H1 locs1 cells slots Q (F0 mi (pc + 3) ls (.int r :: rest))) : W p l e R s mi args below meth c H locs cells slots Q (F0 mi pc ls st) :=
  va_calli hr hw.2.2 (zhA hw).1 (zhA hw).2 (fun r u t H1 locs1 ht _ hpo hB _ _ hS => kk r u H1 locs1 hpo (zback C hw ht hB hS))
theorem zafter_l {post : Int64 → ZM → Prop} (C : zX p s mi args c cc own D cy) (hw : zH D cy ad L s.heap H locs m) (hr : va_Run p l e R s mi args below meth c H locs cells slots 0 0 (F0 mi pc ls st) rest (zQl post D cy ad L H.size aa) (zA ad L H.size))
    (kk : ∀ (r : Int64) (m1 : ZM) (H1 : Heap) (locs1 : List Loc), post r m1 → zH D cy ad L s.heap H1 locs1 m1 → W p l e R s mi args below meth c H1 locs1 cells slots Q (F0 mi (pc + 3) ls (.long r :: rest))) : W p l e R s mi args below meth c H locs cells slots Q (F0 mi pc ls st) :=
  va_calll hr hw.2.2 (zhA hw).1 (zhA hw).2 (fun r u t H1 locs1 ht _ hpo hB _ _ hS => kk r u H1 locs1 hpo (zback C hw ht hB hS))
theorem zafter_v {post : ZM → Prop} (C : zX p s mi args c cc own D cy) (hw : zH D cy ad L s.heap H locs m) (hr : va_Run p l e R s mi args below meth c H locs cells slots 0 0 (F0 mi pc ls st) rest (zQv post D cy ad L H.size aa) (zA ad L H.size))
    (kk : ∀ (m1 : ZM) (H1 : Heap) (locs1 : List Loc), post m1 → zH D cy ad L s.heap H1 locs1 m1 → W p l e R s mi args below meth c H1 locs1 cells slots Q (F0 mi (pc + 3) ls rest)) : W p l e R s mi args below meth c H locs cells slots Q (F0 mi pc ls st) :=
  va_callv hr hw.2.2 (zhA hw).1 (zhA hw).2 (fun u t H1 locs1 ht _ hpo hB _ _ hS => kk u H1 locs1 hpo (zback C hw ht hB hS))
theorem zafter_r {post : Nat → ZM → Prop} (C : zX p s mi args c cc own D cy) (hw : zH D cy ad L s.heap H locs m) (hr : va_Run p l e R s mi args below meth c H locs cells slots 0 0 (F0 mi pc ls st) rest (zQr post D cy ad L H.size aa) (zA ad L H.size))
    (kk : ∀ (ra : Nat) (m1 : ZM) (H1 : Heap) (locs1 : List Loc), post ra m1 → zH D cy ad L s.heap H1 locs1 m1 → W p l e R s mi args below meth c H1 locs1 cells slots Q (F0 mi (pc + 3) ls (.ref ra :: rest))) : W p l e R s mi args below meth c H locs cells slots Q (F0 mi pc ls st) :=
  va_callr hr hw.2.2 (zhA hw).1 (zhA hw).2 (fun u ra t H1 locs1 ht _ _ hB _ _ hS => kk ra u H1 locs1 hB.1 (zback C hw ht hB.2 hS))
end ZE
/-! numbers, and rows for what is on the stack -/
section ZT
variable {p : Program} {l : Launch} {e : Env} {R : Room} {s : State} {mi : MethodId} {args : Array Value} {below : List Frame} {meth : Method} {c : Code} {H H0 : Heap} {locs : List Loc} {cells slots : Nat} {Q : State → Prop}
variable {cc : ByteArray} {own : String} {pc : Nat} {ls : Array Slot} {rest : List Value} {D : va_G} {cy : Nat → ClassId} {ad : ZN → Nat} {L : List ZN} {m : ZM} {n : ZN}
theorem ztop {x y : Int32} (h : x = y) (k : W p l e R s mi args below meth c H locs cells slots Q (F0 mi pc ls (.int y :: rest))) : W p l e R s mi args below meth c H locs cells slots Q (F0 mi pc ls (.int x :: rest)) := by rw [h]; exact k
theorem ztopr {x y : Nat} (h : x = y) (k : W p l e R s mi args below meth c H locs cells slots Q (F0 mi pc ls (.ref y :: rest))) : W p l e R s mi args below meth c H locs cells slots Q (F0 mi pc ls (.ref x :: rest)) := by rw [h]; exact k
theorem zix {x : Int32} {k N : Nat} (hx : x = nI k) (hk : k < N) (hN : N < 2 ^ 31) : vp_in x N ∧ x.toNatClampNeg = k := by
  subst hx
  exact ⟨vp_in_nI hk hN, nI_clamp (Nat.lt_trans hk hN)⟩
/-- an array read at a place that is a known number -/
theorem zaldN (C : zX p s mi args c cc own D cy) (hw : zH D cy ad L H0 H locs m) {id len : Nat} (hn : (2, id, len) ∈ L) {i : Int32} (k : Nat) (hk : k < len) (hi : i = nI k) (hlen : len < 2 ^ 31) (hdg : decode cc pc = .ok (.iaload, 1))
    (kk : W p l e R s mi args below meth c H locs cells slots Q (F0 mi (pc + 1) ls (.int (m (2, id, len) k) :: rest))) : W p l e R s mi args below meth c H locs cells slots Q (F0 mi pc ls (.int i :: .ref (ad (2, id, len)) :: rest)) := by
  obtain ⟨h1, h2⟩ := zix hi hk hlen
  rw [← h2] at kk
  exact zald C hw hn h1 hdg kk
theorem zastN (C : zX p s mi args c cc own D cy) (hw : zH D cy ad L H0 H locs m) {id len : Nat} (hn : (2, id, len) ∈ L) {i x : Int32} (k : Nat) (hk : k < len) (hi : i = nI k) (hlen : len < 2 ^ 31) (hdg : decode cc pc = .ok (.iastore, 1))
    (kk : ∀ (H1 : Heap) (locs1 : List Loc) (m1 : ZM), m1 = zs m (2, id, len) k x → zH D cy ad L H0 H1 locs1 m1 → W p l e R s mi args below meth c H1 locs1 cells slots Q (F0 mi (pc + 1) ls rest)) : W p l e R s mi args below meth c H locs cells slots Q (F0 mi pc ls (.int x :: .int i :: .ref (ad (2, id, len)) :: rest)) := by
  obtain ⟨h1, h2⟩ := zix hi hk hlen
  refine zast C hw hn h1 hdg (fun H1 locs1 m1 h => kk H1 locs1 m1 ?_)
  rw [← h2]; exact h
theorem zald_3N (C : zX p s mi args c cc own D cy) (hw : zH D cy ad L H0 H locs m) {a b : Nat} (hn : (3, a, b) ∈ L) {i : Int32} (k : Nat) (hk : k < 4) (hi : i = nI k) (hdg : decode cc pc = .ok (.aaload, 1))
    (kk : W p l e R s mi args below meth c H locs cells slots Q (F0 mi (pc + 1) ls (.ref (ad (4, a, k)) :: rest))) : W p l e R s mi args below meth c H locs cells slots Q (F0 mi pc ls (.int i :: .ref (ad (3, a, b)) :: rest)) := by
  obtain ⟨h1, h2⟩ := zix hi hk (by decide)
  rw [← h2] at kk
  exact zald_3 C hw hn h1 hdg kk
theorem zald_5N (C : zX p s mi args c cc own D cy) (hw : zH D cy ad L H0 H locs m) {a b : Nat} (hn : (5, a, b) ∈ L) {i : Int32} (k : Nat) (hk : k < 4) (hi : i = nI k) (hdg : decode cc pc = .ok (.aaload, 1))
    (kk : W p l e R s mi args below meth c H locs cells slots Q (F0 mi (pc + 1) ls (.ref (ad (6, a, 4 * b + k)) :: rest))) : W p l e R s mi args below meth c H locs cells slots Q (F0 mi pc ls (.int i :: .ref (ad (5, a, b)) :: rest)) := by
  obtain ⟨h1, h2⟩ := zix hi hk (by decide)
  rw [← h2] at kk
  exact zald_5 C hw hn h1 hdg kk
theorem zald_9N (C : zX p s mi args c cc own D cy) (hw : zH D cy ad L H0 H locs m) {a b : Nat} (hn : (9, a, b) ∈ L) {i : Int32} (k : Nat) (hk : k < 30) (hi : i = nI k) (hdg : decode cc pc = .ok (.aaload, 1))
    (kk : W p l e R s mi args below meth c H locs cells slots Q (F0 mi (pc + 1) ls (.ref (ad (10, a, k)) :: rest))) : W p l e R s mi args below meth c H locs cells slots Q (F0 mi pc ls (.int i :: .ref (ad (9, a, b)) :: rest)) := by
  obtain ⟨h1, h2⟩ := zix hi hk (by decide)
  rw [← h2] at kk
  exact zald_9 C hw hn h1 hdg kk
theorem zald_11N (C : zX p s mi args c cc own D cy) (hw : zH D cy ad L H0 H locs m) {a b : Nat} (hn : (11, a, b) ∈ L) {i : Int32} (k : Nat) (hk : k < 3) (hi : i = nI k) (hdg : decode cc pc = .ok (.aaload, 1))
    (kk : W p l e R s mi args below meth c H locs cells slots Q (F0 mi (pc + 1) ls (.ref (ad (7, a, 42 + k)) :: rest))) : W p l e R s mi args below meth c H locs cells slots Q (F0 mi pc ls (.int i :: .ref (ad (11, a, b)) :: rest)) := by
  obtain ⟨h1, h2⟩ := zix hi hk (by decide)
  rw [← h2] at kk
  exact zald_11 C hw hn h1 hdg kk
end ZT
theorem zadd {x y : Int32} {a b : Nat} (h1 : x = nI a) (h2 : y = nI b) : x + y = nI (a + b) := by rw [h1, h2, nI_add]
theorem zmul {x y : Int32} {a b : Nat} (h1 : x = nI a) (h2 : y = nI b) : x * y = nI (a * b) := by rw [h1, h2, pk_mul]
theorem zsub {x y : Int32} {a b : Nat} (h1 : x = nI a) (h2 : y = nI b) (h : b ≤ a) : x - y = nI (a - b) := by rw [h1, h2, pk_sub h]
theorem zle {x y : Int32} {a b : Nat} (h : x ≤ y) (h1 : x = nI a) (h2 : y = nI b) (ha : a < 2 ^ 31) (hb : b < 2 ^ 31) : a ≤ b := by rw [h1, h2] at h; exact (nI_leI ha hb).mp h
theorem znle {x y : Int32} {a b : Nat} (h : ¬ x ≤ y) (h1 : x = nI a) (h2 : y = nI b) (ha : a < 2 ^ 31) (hb : b < 2 ^ 31) : b < a := by rw [h1, h2, nI_leI ha hb] at h; omega
theorem zlt {x y : Int32} {a b : Nat} (h : x < y) (h1 : x = nI a) (h2 : y = nI b) (ha : a < 2 ^ 31) (hb : b < 2 ^ 31) : a < b := by rw [h1, h2] at h; exact (nI_ltI ha hb).mp h
theorem znlt {x y : Int32} {a b : Nat} (h : ¬ x < y) (h1 : x = nI a) (h2 : y = nI b) (ha : a < 2 ^ 31) (hb : b < 2 ^ 31) : b ≤ a := by rw [h1, h2, nI_ltI ha hb] at h; omega
theorem zeq {x y : Int32} {a b : Nat} (h : x = y) (h1 : x = nI a) (h2 : y = nI b) (ha : a < 2 ^ 31) (hb : b < 2 ^ 31) : a = b := by rw [h1, h2] at h; exact (nI_eq ha hb).mp h
theorem zne {x y : Int32} {a b : Nat} (h : ¬ x = y) (h1 : x = nI a) (h2 : y = nI b) (ha : a < 2 ^ 31) (hb : b < 2 ^ 31) : a ≠ b := by rw [h1, h2, nI_eq ha hb] at h; exact h
/-! which names there are -/
def zok2 (a b : Nat) : Prop := (a < 2 ∧ b = 24) ∨ (a = 60 ∧ b = 2) ∨ ∃ w, w < 2 ∧ ((a = 10 + 20 * w ∧ b = 24) ∨ (a = 11 + 20 * w ∧ b = 4) ∨ (a = 12 + 20 * w ∧ b = 16) ∨ (a = 13 + 20 * w ∧ b = 16) ∨ (a = 14 + 20 * w ∧ b = 16) ∨ (a = 15 + 20 * w ∧ b = 4) ∨ (a = 16 + 20 * w ∧ b = 4) ∨ (a = 17 + 20 * w ∧ b = 4) ∨ (a = 18 + 20 * w ∧ b = 4) ∨ (a = 19 + 20 * w ∧ b = 24) ∨ (a = 20 + 20 * w ∧ b = 90) ∨ (a = 21 + 20 * w ∧ b = 6))
def zok (n : ZN) : Prop := match n.1 with
  | 0 => n.2 = (0, 0)
  | 1 => n.2.1 < 2 ∧ n.2.2 = 0
  | 2 => zok2 n.2.1 n.2.2
  | 3 => n.2.1 < 2 ∧ n.2.2 = 0
  | 4 => n.2.1 < 2 ∧ n.2.2 < 4
  | 5 => n.2.1 < 2 ∧ n.2.2 < 4
  | 6 => n.2.1 < 2 ∧ n.2.2 < 16
  | 7 => n.2.1 < 2 ∧ n.2.2 < 47
  | 8 => n.2.1 < 2 ∧ n.2.2 = 0
  | 9 => n.2.1 < 2 ∧ n.2.2 = 0
  | 10 => n.2.1 < 2 ∧ n.2.2 < 30
  | 11 => n.2.1 < 2 ∧ n.2.2 = 0
  | 12 => n.2 = (0, 0)
  | 13 => n.2.1 < 2 ∧ n.2.2 = 0
  | 14 => n.2 = (0, 0)
  | _ => False
def zL (L : List ZN) : Prop := ∀ n, zok n → n ∈ L
section ZL
variable {L : List ZN} {w b : Nat}
theorem zn0 (hL : zL L) : (0, 0, 0) ∈ L := hL (0, 0, 0) rfl
theorem zn1 (hL : zL L) (hw : w < 2) : (1, w, 0) ∈ L := hL (1, w, 0) ⟨hw, rfl⟩
theorem zn2 (hL : zL L) (hw : w < 2) : (2, w, 24) ∈ L := hL (2, w, 24) (Or.inl ⟨hw, rfl⟩)
theorem zn2s (hL : zL L) : (2, 60, 2) ∈ L := hL (2, 60, 2) (Or.inr (Or.inl ⟨rfl, rfl⟩))
theorem zn3 (hL : zL L) (hw : w < 2) : (3, w, 0) ∈ L := hL (3, w, 0) ⟨hw, rfl⟩
theorem zn4 (hL : zL L) (hw : w < 2) (hb : b < 4) : (4, w, b) ∈ L := hL (4, w, b) ⟨hw, hb⟩
theorem zn5 (hL : zL L) (hw : w < 2) (hb : b < 4) : (5, w, b) ∈ L := hL (5, w, b) ⟨hw, hb⟩
theorem zn6 (hL : zL L) (hw : w < 2) (hb : b < 16) : (6, w, b) ∈ L := hL (6, w, b) ⟨hw, hb⟩
theorem zn7 (hL : zL L) (hw : w < 2) (hb : b < 47) : (7, w, b) ∈ L := hL (7, w, b) ⟨hw, hb⟩
theorem zn8 (hL : zL L) (hw : w < 2) : (8, w, 0) ∈ L := hL (8, w, 0) ⟨hw, rfl⟩
theorem zn9 (hL : zL L) (hw : w < 2) : (9, w, 0) ∈ L := hL (9, w, 0) ⟨hw, rfl⟩
theorem zn10 (hL : zL L) (hw : w < 2) (hb : b < 30) : (10, w, b) ∈ L := hL (10, w, b) ⟨hw, hb⟩
theorem zn11 (hL : zL L) (hw : w < 2) : (11, w, 0) ∈ L := hL (11, w, 0) ⟨hw, rfl⟩
theorem zn12 (hL : zL L) : (12, 0, 0) ∈ L := hL (12, 0, 0) rfl
theorem zn13 (hL : zL L) (hw : w < 2) : (13, w, 0) ∈ L := hL (13, w, 0) ⟨hw, rfl⟩
theorem zn14 (hL : zL L) : (14, 0, 0) ∈ L := hL (14, 0, 0) rfl
theorem zq10 (hL : zL L) (hw : w < 2) : (2, 10 + 20 * w, 24) ∈ L := hL _ (Or.inr (Or.inr ⟨w, hw, by simp⟩))
theorem zq11 (hL : zL L) (hw : w < 2) : (2, 11 + 20 * w, 4) ∈ L := hL _ (Or.inr (Or.inr ⟨w, hw, by simp⟩))
theorem zq12 (hL : zL L) (hw : w < 2) : (2, 12 + 20 * w, 16) ∈ L := hL _ (Or.inr (Or.inr ⟨w, hw, by simp⟩))
theorem zq13 (hL : zL L) (hw : w < 2) : (2, 13 + 20 * w, 16) ∈ L := hL _ (Or.inr (Or.inr ⟨w, hw, by simp⟩))
theorem zq14 (hL : zL L) (hw : w < 2) : (2, 14 + 20 * w, 16) ∈ L := hL _ (Or.inr (Or.inr ⟨w, hw, by simp⟩))
theorem zq15 (hL : zL L) (hw : w < 2) : (2, 15 + 20 * w, 4) ∈ L := hL _ (Or.inr (Or.inr ⟨w, hw, by simp⟩))
theorem zq16 (hL : zL L) (hw : w < 2) : (2, 16 + 20 * w, 4) ∈ L := hL _ (Or.inr (Or.inr ⟨w, hw, by simp⟩))
theorem zq17 (hL : zL L) (hw : w < 2) : (2, 17 + 20 * w, 4) ∈ L := hL _ (Or.inr (Or.inr ⟨w, hw, by simp⟩))
theorem zq18 (hL : zL L) (hw : w < 2) : (2, 18 + 20 * w, 4) ∈ L := hL _ (Or.inr (Or.inr ⟨w, hw, by simp⟩))
theorem zq19 (hL : zL L) (hw : w < 2) : (2, 19 + 20 * w, 24) ∈ L := hL _ (Or.inr (Or.inr ⟨w, hw, by simp⟩))
theorem zq20 (hL : zL L) (hw : w < 2) : (2, 20 + 20 * w, 90) ∈ L := hL _ (Or.inr (Or.inr ⟨w, hw, by simp⟩))
theorem zq21 (hL : zL L) (hw : w < 2) : (2, 21 + 20 * w, 6) ∈ L := hL _ (Or.inr (Or.inr ⟨w, hw, by simp⟩))
end ZL

theorem zsw11 {x : Int32} (h0 : ¬ x = 0) (h1 : ¬ x = 1) (h2 : ¬ x = 2) (h3 : ¬ x = 3) (h4 : ¬ x = 4) (h5 : ¬ x = 5) (h6 : ¬ x = 6) (h7 : ¬ x = 7) (h8 : ¬ x = 8) (h9 : ¬ x = 9) (h10 : ¬ x = 10) : x.toInt < 0 ∨ 10 < x.toInt := by
  have g0 := lv_neT h0 (a := 0) rfl
  have g1 := lv_neT h1 (a := 1) rfl
  have g2 := lv_neT h2 (a := 2) rfl
  have g3 := lv_neT h3 (a := 3) rfl
  have g4 := lv_neT h4 (a := 4) rfl
  have g5 := lv_neT h5 (a := 5) rfl
  have g6 := lv_neT h6 (a := 6) rfl
  have g7 := lv_neT h7 (a := 7) rfl
  have g8 := lv_neT h8 (a := 8) rfl
  have g9 := lv_neT h9 (a := 9) rfl
  have g10 := lv_neT h10 (a := 10) rfl
  omega
theorem zsw13 {x : Int32} (h0 : ¬ x = 0) (h1 : ¬ x = 1) (h2 : ¬ x = 2) (h3 : ¬ x = 3) (h4 : ¬ x = 4) (h5 : ¬ x = 5) (h6 : ¬ x = 6) (h7 : ¬ x = 7) (h8 : ¬ x = 8) (h9 : ¬ x = 9) (h10 : ¬ x = 10) (h11 : ¬ x = 11) (h12 : ¬ x = 12) : x.toInt < 0 ∨ 12 < x.toInt := by
  have g0 := lv_neT h0 (a := 0) rfl
  have g1 := lv_neT h1 (a := 1) rfl
  have g2 := lv_neT h2 (a := 2) rfl
  have g3 := lv_neT h3 (a := 3) rfl
  have g4 := lv_neT h4 (a := 4) rfl
  have g5 := lv_neT h5 (a := 5) rfl
  have g6 := lv_neT h6 (a := 6) rfl
  have g7 := lv_neT h7 (a := 7) rfl
  have g8 := lv_neT h8 (a := 8) rfl
  have g9 := lv_neT h9 (a := 9) rfl
  have g10 := lv_neT h10 (a := 10) rfl
  have g11 := lv_neT h11 (a := 11) rfl
  have g12 := lv_neT h12 (a := 12) rfl
  omega
end
section
/-! the words by their places; fields and calls, a row each (by program: wip/whole/mkwords.py) -/
theorem zgood : ∀ w ∈ wsL_law, goodWord w = true := List.all_eq_true.mp (by decide +kernel)
theorem zr_1 : ∀ w ∈ wsL_law0_r1, w ∈ wsL_law := fun _ h => (List.mem_append_left _ (List.mem_append_left _ (List.mem_append_left _ (List.mem_append_left _ (List.mem_append_left _ (List.mem_append_left _ (List.mem_append_left _ (List.mem_append_left _ (List.mem_append_left _ (List.mem_append_left _ (List.mem_append_left _ (List.mem_append_left _ (List.mem_append_left _ (List.mem_append_left _ h))))))))))))))
theorem zr_2 : ∀ w ∈ wsL_law0_r2, w ∈ wsL_law := fun _ h => (List.mem_append_left _ (List.mem_append_left _ (List.mem_append_left _ (List.mem_append_left _ (List.mem_append_left _ (List.mem_append_left _ (List.mem_append_left _ (List.mem_append_left _ (List.mem_append_left _ (List.mem_append_left _ (List.mem_append_left _ (List.mem_append_left _ (List.mem_append_left _ (List.mem_append_right _ (List.mem_append_left _ h)))))))))))))))
theorem zr_3 : ∀ w ∈ wsL_law0_r3, w ∈ wsL_law := fun _ h => (List.mem_append_left _ (List.mem_append_left _ (List.mem_append_left _ (List.mem_append_left _ (List.mem_append_left _ (List.mem_append_left _ (List.mem_append_left _ (List.mem_append_left _ (List.mem_append_left _ (List.mem_append_left _ (List.mem_append_left _ (List.mem_append_left _ (List.mem_append_left _ (List.mem_append_right _ (List.mem_append_right _ (List.mem_append_left _ h))))))))))))))))
theorem zr_4 : ∀ w ∈ wsL_law0_r4, w ∈ wsL_law := fun _ h => (List.mem_append_left _ (List.mem_append_left _ (List.mem_append_left _ (List.mem_append_left _ (List.mem_append_left _ (List.mem_append_left _ (List.mem_append_left _ (List.mem_append_left _ (List.mem_append_left _ (List.mem_append_left _ (List.mem_append_left _ (List.mem_append_left _ (List.mem_append_left _ (List.mem_append_right _ (List.mem_append_right _ (List.mem_append_right _ (List.mem_append_left _ h)))))))))))))))))
theorem zr_5 : ∀ w ∈ wsL_law0_r5, w ∈ wsL_law := fun _ h => (List.mem_append_left _ (List.mem_append_left _ (List.mem_append_left _ (List.mem_append_left _ (List.mem_append_left _ (List.mem_append_left _ (List.mem_append_left _ (List.mem_append_left _ (List.mem_append_left _ (List.mem_append_left _ (List.mem_append_left _ (List.mem_append_left _ (List.mem_append_left _ (List.mem_append_right _ (List.mem_append_right _ (List.mem_append_right _ (List.mem_append_right _ (List.mem_append_left _ h))))))))))))))))))
theorem zr_6 : ∀ w ∈ wsL_law0_r6, w ∈ wsL_law := fun _ h => (List.mem_append_left _ (List.mem_append_left _ (List.mem_append_left _ (List.mem_append_left _ (List.mem_append_left _ (List.mem_append_left _ (List.mem_append_left _ (List.mem_append_left _ (List.mem_append_left _ (List.mem_append_left _ (List.mem_append_left _ (List.mem_append_left _ (List.mem_append_left _ (List.mem_append_right _ (List.mem_append_right _ (List.mem_append_right _ (List.mem_append_right _ (List.mem_append_right _ (List.mem_append_left _ h)))))))))))))))))))
theorem zr_7 : ∀ w ∈ wsL_law0_r7, w ∈ wsL_law := fun _ h => (List.mem_append_left _ (List.mem_append_left _ (List.mem_append_left _ (List.mem_append_left _ (List.mem_append_left _ (List.mem_append_left _ (List.mem_append_left _ (List.mem_append_left _ (List.mem_append_left _ (List.mem_append_left _ (List.mem_append_left _ (List.mem_append_left _ (List.mem_append_left _ (List.mem_append_right _ (List.mem_append_right _ (List.mem_append_right _ (List.mem_append_right _ (List.mem_append_right _ (List.mem_append_right _ (List.mem_append_left _ h))))))))))))))))))))
theorem zr_8 : ∀ w ∈ wsL_law0_r8, w ∈ wsL_law := fun _ h => (List.mem_append_left _ (List.mem_append_left _ (List.mem_append_left _ (List.mem_append_left _ (List.mem_append_left _ (List.mem_append_left _ (List.mem_append_left _ (List.mem_append_left _ (List.mem_append_left _ (List.mem_append_left _ (List.mem_append_left _ (List.mem_append_left _ (List.mem_append_left _ (List.mem_append_right _ (List.mem_append_right _ (List.mem_append_right _ (List.mem_append_right _ (List.mem_append_right _ (List.mem_append_right _ (List.mem_append_right _ (List.mem_append_left _ h)))))))))))))))))))))
theorem zr_9 : ∀ w ∈ wsL_law0_r9, w ∈ wsL_law := fun _ h => (List.mem_append_left _ (List.mem_append_left _ (List.mem_append_left _ (List.mem_append_left _ (List.mem_append_left _ (List.mem_append_left _ (List.mem_append_left _ (List.mem_append_left _ (List.mem_append_left _ (List.mem_append_left _ (List.mem_append_left _ (List.mem_append_left _ (List.mem_append_left _ (List.mem_append_right _ (List.mem_append_right _ (List.mem_append_right _ (List.mem_append_right _ (List.mem_append_right _ (List.mem_append_right _ (List.mem_append_right _ (List.mem_append_right _ (List.mem_append_left _ h))))))))))))))))))))))
theorem zr_10 : ∀ w ∈ wsL_law0_r10, w ∈ wsL_law := fun _ h => (List.mem_append_left _ (List.mem_append_left _ (List.mem_append_left _ (List.mem_append_left _ (List.mem_append_left _ (List.mem_append_left _ (List.mem_append_left _ (List.mem_append_left _ (List.mem_append_left _ (List.mem_append_left _ (List.mem_append_left _ (List.mem_append_left _ (List.mem_append_left _ (List.mem_append_right _ (List.mem_append_right _ (List.mem_append_right _ (List.mem_append_right _ (List.mem_append_right _ (List.mem_append_right _ (List.mem_append_right _ (List.mem_append_right _ (List.mem_append_right _ (List.mem_append_left _ h)))))))))))))))))))))))
theorem zr_11 : ∀ w ∈ wsL_law0_r11, w ∈ wsL_law := fun _ h => (List.mem_append_left _ (List.mem_append_left _ (List.mem_append_left _ (List.mem_append_left _ (List.mem_append_left _ (List.mem_append_left _ (List.mem_append_left _ (List.mem_append_left _ (List.mem_append_left _ (List.mem_append_left _ (List.mem_append_left _ (List.mem_append_left _ (List.mem_append_left _ (List.mem_append_right _ (List.mem_append_right _ (List.mem_append_right _ (List.mem_append_right _ (List.mem_append_right _ (List.mem_append_right _ (List.mem_append_right _ (List.mem_append_right _ (List.mem_append_right _ (List.mem_append_right _ (List.mem_append_left _ h))))))))))))))))))))))))
theorem zr_12 : ∀ w ∈ wsL_law0_r12, w ∈ wsL_law := fun _ h => (List.mem_append_left _ (List.mem_append_left _ (List.mem_append_left _ (List.mem_append_left _ (List.mem_append_left _ (List.mem_append_left _ (List.mem_append_left _ (List.mem_append_left _ (List.mem_append_left _ (List.mem_append_left _ (List.mem_append_left _ (List.mem_append_left _ (List.mem_append_left _ (List.mem_append_right _ (List.mem_append_right _ (List.mem_append_right _ (List.mem_append_right _ (List.mem_append_right _ (List.mem_append_right _ (List.mem_append_right _ (List.mem_append_right _ (List.mem_append_right _ (List.mem_append_right _ (List.mem_append_right _ (List.mem_append_left _ h)))))))))))))))))))))))))
theorem zr_13 : ∀ w ∈ wsL_law0_r13, w ∈ wsL_law := fun _ h => (List.mem_append_left _ (List.mem_append_left _ (List.mem_append_left _ (List.mem_append_left _ (List.mem_append_left _ (List.mem_append_left _ (List.mem_append_left _ (List.mem_append_left _ (List.mem_append_left _ (List.mem_append_left _ (List.mem_append_left _ (List.mem_append_left _ (List.mem_append_left _ (List.mem_append_right _ (List.mem_append_right _ (List.mem_append_right _ (List.mem_append_right _ (List.mem_append_right _ (List.mem_append_right _ (List.mem_append_right _ (List.mem_append_right _ (List.mem_append_right _ (List.mem_append_right _ (List.mem_append_right _ (List.mem_append_right _ (List.mem_append_left _ h))))))))))))))))))))))))))
theorem zr_14 : ∀ w ∈ wsL_law0_r14, w ∈ wsL_law := fun _ h => (List.mem_append_left _ (List.mem_append_left _ (List.mem_append_left _ (List.mem_append_left _ (List.mem_append_left _ (List.mem_append_left _ (List.mem_append_left _ (List.mem_append_left _ (List.mem_append_left _ (List.mem_append_left _ (List.mem_append_left _ (List.mem_append_left _ (List.mem_append_left _ (List.mem_append_right _ (List.mem_append_right _ (List.mem_append_right _ (List.mem_append_right _ (List.mem_append_right _ (List.mem_append_right _ (List.mem_append_right _ (List.mem_append_right _ (List.mem_append_right _ (List.mem_append_right _ (List.mem_append_right _ (List.mem_append_right _ (List.mem_append_right _ (List.mem_append_left _ h)))))))))))))))))))))))))))
theorem zr_15 : ∀ w ∈ wsL_law0_r15, w ∈ wsL_law := fun _ h => (List.mem_append_left _ (List.mem_append_left _ (List.mem_append_left _ (List.mem_append_left _ (List.mem_append_left _ (List.mem_append_left _ (List.mem_append_left _ (List.mem_append_left _ (List.mem_append_left _ (List.mem_append_left _ (List.mem_append_left _ (List.mem_append_left _ (List.mem_append_left _ (List.mem_append_right _ (List.mem_append_right _ (List.mem_append_right _ (List.mem_append_right _ (List.mem_append_right _ (List.mem_append_right _ (List.mem_append_right _ (List.mem_append_right _ (List.mem_append_right _ (List.mem_append_right _ (List.mem_append_right _ (List.mem_append_right _ (List.mem_append_right _ (List.mem_append_right _ (List.mem_append_left _ h))))))))))))))))))))))))))))
theorem zr_16 : ∀ w ∈ wsL_law0_r16, w ∈ wsL_law := fun _ h => (List.mem_append_left _ (List.mem_append_left _ (List.mem_append_left _ (List.mem_append_left _ (List.mem_append_left _ (List.mem_append_left _ (List.mem_append_left _ (List.mem_append_left _ (List.mem_append_left _ (List.mem_append_left _ (List.mem_append_left _ (List.mem_append_left _ (List.mem_append_left _ (List.mem_append_right _ (List.mem_append_right _ (List.mem_append_right _ (List.mem_append_right _ (List.mem_append_right _ (List.mem_append_right _ (List.mem_append_right _ (List.mem_append_right _ (List.mem_append_right _ (List.mem_append_right _ (List.mem_append_right _ (List.mem_append_right _ (List.mem_append_right _ (List.mem_append_right _ (List.mem_append_right _ (List.mem_append_left _ h)))))))))))))))))))))))))))))
theorem zr_17 : ∀ w ∈ wsL_law0_r17, w ∈ wsL_law := fun _ h => (List.mem_append_left _ (List.mem_append_left _ (List.mem_append_left _ (List.mem_append_left _ (List.mem_append_left _ (List.mem_append_left _ (List.mem_append_left _ (List.mem_append_left _ (List.mem_append_left _ (List.mem_append_left _ (List.mem_append_left _ (List.mem_append_left _ (List.mem_append_left _ (List.mem_append_right _ (List.mem_append_right _ (List.mem_append_right _ (List.mem_append_right _ (List.mem_append_right _ (List.mem_append_right _ (List.mem_append_right _ (List.mem_append_right _ (List.mem_append_right _ (List.mem_append_right _ (List.mem_append_right _ (List.mem_append_right _ (List.mem_append_right _ (List.mem_append_right _ (List.mem_append_right _ (List.mem_append_right _ (List.mem_append_left _ h))))))))))))))))))))))))))))))
theorem zr_18 : ∀ w ∈ wsL_law0_r18, w ∈ wsL_law := fun _ h => (List.mem_append_left _ (List.mem_append_left _ (List.mem_append_left _ (List.mem_append_left _ (List.mem_append_left _ (List.mem_append_left _ (List.mem_append_left _ (List.mem_append_left _ (List.mem_append_left _ (List.mem_append_left _ (List.mem_append_left _ (List.mem_append_left _ (List.mem_append_left _ (List.mem_append_right _ (List.mem_append_right _ (List.mem_append_right _ (List.mem_append_right _ (List.mem_append_right _ (List.mem_append_right _ (List.mem_append_right _ (List.mem_append_right _ (List.mem_append_right _ (List.mem_append_right _ (List.mem_append_right _ (List.mem_append_right _ (List.mem_append_right _ (List.mem_append_right _ (List.mem_append_right _ (List.mem_append_right _ (List.mem_append_right _ (List.mem_append_left _ h)))))))))))))))))))))))))))))))
theorem zr_19 : ∀ w ∈ wsL_law0_r19, w ∈ wsL_law := fun _ h => (List.mem_append_left _ (List.mem_append_left _ (List.mem_append_left _ (List.mem_append_left _ (List.mem_append_left _ (List.mem_append_left _ (List.mem_append_left _ (List.mem_append_left _ (List.mem_append_left _ (List.mem_append_left _ (List.mem_append_left _ (List.mem_append_left _ (List.mem_append_left _ (List.mem_append_right _ (List.mem_append_right _ (List.mem_append_right _ (List.mem_append_right _ (List.mem_append_right _ (List.mem_append_right _ (List.mem_append_right _ (List.mem_append_right _ (List.mem_append_right _ (List.mem_append_right _ (List.mem_append_right _ (List.mem_append_right _ (List.mem_append_right _ (List.mem_append_right _ (List.mem_append_right _ (List.mem_append_right _ (List.mem_append_right _ (List.mem_append_right _ (List.mem_append_left _ h))))))))))))))))))))))))))))))))
theorem zr_20 : ∀ w ∈ wsL_law0_r20, w ∈ wsL_law := fun _ h => (List.mem_append_left _ (List.mem_append_left _ (List.mem_append_left _ (List.mem_append_left _ (List.mem_append_left _ (List.mem_append_left _ (List.mem_append_left _ (List.mem_append_left _ (List.mem_append_left _ (List.mem_append_left _ (List.mem_append_left _ (List.mem_append_left _ (List.mem_append_left _ (List.mem_append_right _ (List.mem_append_right _ (List.mem_append_right _ (List.mem_append_right _ (List.mem_append_right _ (List.mem_append_right _ (List.mem_append_right _ (List.mem_append_right _ (List.mem_append_right _ (List.mem_append_right _ (List.mem_append_right _ (List.mem_append_right _ (List.mem_append_right _ (List.mem_append_right _ (List.mem_append_right _ (List.mem_append_right _ (List.mem_append_right _ (List.mem_append_right _ (List.mem_append_right _ (List.mem_append_left _ h)))))))))))))))))))))))))))))))))
theorem zr_21 : ∀ w ∈ wsL_law0_r21, w ∈ wsL_law := fun _ h => (List.mem_append_left _ (List.mem_append_left _ (List.mem_append_left _ (List.mem_append_left _ (List.mem_append_left _ (List.mem_append_left _ (List.mem_append_left _ (List.mem_append_left _ (List.mem_append_left _ (List.mem_append_left _ (List.mem_append_left _ (List.mem_append_left _ (List.mem_append_left _ (List.mem_append_right _ (List.mem_append_right _ (List.mem_append_right _ (List.mem_append_right _ (List.mem_append_right _ (List.mem_append_right _ (List.mem_append_right _ (List.mem_append_right _ (List.mem_append_right _ (List.mem_append_right _ (List.mem_append_right _ (List.mem_append_right _ (List.mem_append_right _ (List.mem_append_right _ (List.mem_append_right _ (List.mem_append_right _ (List.mem_append_right _ (List.mem_append_right _ (List.mem_append_right _ (List.mem_append_right _ (List.mem_append_left _ h))))))))))))))))))))))))))))))))))
theorem zr_22 : ∀ w ∈ wsL_law0_r22, w ∈ wsL_law := fun _ h => (List.mem_append_left _ (List.mem_append_left _ (List.mem_append_left _ (List.mem_append_left _ (List.mem_append_left _ (List.mem_append_left _ (List.mem_append_left _ (List.mem_append_left _ (List.mem_append_left _ (List.mem_append_left _ (List.mem_append_left _ (List.mem_append_left _ (List.mem_append_left _ (List.mem_append_right _ (List.mem_append_right _ (List.mem_append_right _ (List.mem_append_right _ (List.mem_append_right _ (List.mem_append_right _ (List.mem_append_right _ (List.mem_append_right _ (List.mem_append_right _ (List.mem_append_right _ (List.mem_append_right _ (List.mem_append_right _ (List.mem_append_right _ (List.mem_append_right _ (List.mem_append_right _ (List.mem_append_right _ (List.mem_append_right _ (List.mem_append_right _ (List.mem_append_right _ (List.mem_append_right _ (List.mem_append_right _ (List.mem_append_left _ h)))))))))))))))))))))))))))))))))))
theorem zr_23 : ∀ w ∈ wsL_law0_r23, w ∈ wsL_law := fun _ h => (List.mem_append_left _ (List.mem_append_left _ (List.mem_append_left _ (List.mem_append_left _ (List.mem_append_left _ (List.mem_append_left _ (List.mem_append_left _ (List.mem_append_left _ (List.mem_append_left _ (List.mem_append_left _ (List.mem_append_left _ (List.mem_append_left _ (List.mem_append_left _ (List.mem_append_right _ (List.mem_append_right _ (List.mem_append_right _ (List.mem_append_right _ (List.mem_append_right _ (List.mem_append_right _ (List.mem_append_right _ (List.mem_append_right _ (List.mem_append_right _ (List.mem_append_right _ (List.mem_append_right _ (List.mem_append_right _ (List.mem_append_right _ (List.mem_append_right _ (List.mem_append_right _ (List.mem_append_right _ (List.mem_append_right _ (List.mem_append_right _ (List.mem_append_right _ (List.mem_append_right _ (List.mem_append_right _ (List.mem_append_right _ (List.mem_append_left _ h))))))))))))))))))))))))))))))))))))
theorem zr_24 : ∀ w ∈ wsL_law0_r24, w ∈ wsL_law := fun _ h => (List.mem_append_left _ (List.mem_append_left _ (List.mem_append_left _ (List.mem_append_left _ (List.mem_append_left _ (List.mem_append_left _ (List.mem_append_left _ (List.mem_append_left _ (List.mem_append_left _ (List.mem_append_left _ (List.mem_append_left _ (List.mem_append_left _ (List.mem_append_left _ (List.mem_append_right _ (List.mem_append_right _ (List.mem_append_right _ (List.mem_append_right _ (List.mem_append_right _ (List.mem_append_right _ (List.mem_append_right _ (List.mem_append_right _ (List.mem_append_right _ (List.mem_append_right _ (List.mem_append_right _ (List.mem_append_right _ (List.mem_append_right _ (List.mem_append_right _ (List.mem_append_right _ (List.mem_append_right _ (List.mem_append_right _ (List.mem_append_right _ (List.mem_append_right _ (List.mem_append_right _ (List.mem_append_right _ (List.mem_append_right _ (List.mem_append_right _ (List.mem_append_left _ h)))))))))))))))))))))))))))))))))))))
theorem zr_25 : ∀ w ∈ wsL_law0_r25, w ∈ wsL_law := fun _ h => (List.mem_append_left _ (List.mem_append_left _ (List.mem_append_left _ (List.mem_append_left _ (List.mem_append_left _ (List.mem_append_left _ (List.mem_append_left _ (List.mem_append_left _ (List.mem_append_left _ (List.mem_append_left _ (List.mem_append_left _ (List.mem_append_left _ (List.mem_append_left _ (List.mem_append_right _ (List.mem_append_right _ (List.mem_append_right _ (List.mem_append_right _ (List.mem_append_right _ (List.mem_append_right _ (List.mem_append_right _ (List.mem_append_right _ (List.mem_append_right _ (List.mem_append_right _ (List.mem_append_right _ (List.mem_append_right _ (List.mem_append_right _ (List.mem_append_right _ (List.mem_append_right _ (List.mem_append_right _ (List.mem_append_right _ (List.mem_append_right _ (List.mem_append_right _ (List.mem_append_right _ (List.mem_append_right _ (List.mem_append_right _ (List.mem_append_right _ (List.mem_append_right _ (List.mem_append_left _ h))))))))))))))))))))))))))))))))))))))
theorem zr_26 : ∀ w ∈ wsL_law0_r26, w ∈ wsL_law := fun _ h => (List.mem_append_left _ (List.mem_append_left _ (List.mem_append_left _ (List.mem_append_left _ (List.mem_append_left _ (List.mem_append_left _ (List.mem_append_left _ (List.mem_append_left _ (List.mem_append_left _ (List.mem_append_left _ (List.mem_append_left _ (List.mem_append_left _ (List.mem_append_left _ (List.mem_append_right _ (List.mem_append_right _ (List.mem_append_right _ (List.mem_append_right _ (List.mem_append_right _ (List.mem_append_right _ (List.mem_append_right _ (List.mem_append_right _ (List.mem_append_right _ (List.mem_append_right _ (List.mem_append_right _ (List.mem_append_right _ (List.mem_append_right _ (List.mem_append_right _ (List.mem_append_right _ (List.mem_append_right _ (List.mem_append_right _ (List.mem_append_right _ (List.mem_append_right _ (List.mem_append_right _ (List.mem_append_right _ (List.mem_append_right _ (List.mem_append_right _ (List.mem_append_right _ (List.mem_append_right _ (List.mem_append_left _ h)))))))))))))))))))))))))))))))))))))))
theorem zr_27 : ∀ w ∈ wsL_law0_r27, w ∈ wsL_law := fun _ h => (List.mem_append_left _ (List.mem_append_left _ (List.mem_append_left _ (List.mem_append_left _ (List.mem_append_left _ (List.mem_append_left _ (List.mem_append_left _ (List.mem_append_left _ (List.mem_append_left _ (List.mem_append_left _ (List.mem_append_left _ (List.mem_append_left _ (List.mem_append_left _ (List.mem_append_right _ (List.mem_append_right _ (List.mem_append_right _ (List.mem_append_right _ (List.mem_append_right _ (List.mem_append_right _ (List.mem_append_right _ (List.mem_append_right _ (List.mem_append_right _ (List.mem_append_right _ (List.mem_append_right _ (List.mem_append_right _ (List.mem_append_right _ (List.mem_append_right _ (List.mem_append_right _ (List.mem_append_right _ (List.mem_append_right _ (List.mem_append_right _ (List.mem_append_right _ (List.mem_append_right _ (List.mem_append_right _ (List.mem_append_right _ (List.mem_append_right _ (List.mem_append_right _ (List.mem_append_right _ (List.mem_append_right _ (List.mem_append_left _ h))))))))))))))))))))))))))))))))))))))))
theorem zr_28 : ∀ w ∈ wsL_law0_r28, w ∈ wsL_law := fun _ h => (List.mem_append_left _ (List.mem_append_left _ (List.mem_append_left _ (List.mem_append_left _ (List.mem_append_left _ (List.mem_append_left _ (List.mem_append_left _ (List.mem_append_left _ (List.mem_append_left _ (List.mem_append_left _ (List.mem_append_left _ (List.mem_append_left _ (List.mem_append_left _ (List.mem_append_right _ (List.mem_append_right _ (List.mem_append_right _ (List.mem_append_right _ (List.mem_append_right _ (List.mem_append_right _ (List.mem_append_right _ (List.mem_append_right _ (List.mem_append_right _ (List.mem_append_right _ (List.mem_append_right _ (List.mem_append_right _ (List.mem_append_right _ (List.mem_append_right _ (List.mem_append_right _ (List.mem_append_right _ (List.mem_append_right _ (List.mem_append_right _ (List.mem_append_right _ (List.mem_append_right _ (List.mem_append_right _ (List.mem_append_right _ (List.mem_append_right _ (List.mem_append_right _ (List.mem_append_right _ (List.mem_append_right _ (List.mem_append_right _ (List.mem_append_left _ h)))))))))))))))))))))))))))))))))))))))))
theorem zr_29 : ∀ w ∈ wsL_law0_r29, w ∈ wsL_law := fun _ h => (List.mem_append_left _ (List.mem_append_left _ (List.mem_append_left _ (List.mem_append_left _ (List.mem_append_left _ (List.mem_append_left _ (List.mem_append_left _ (List.mem_append_left _ (List.mem_append_left _ (List.mem_append_left _ (List.mem_append_left _ (List.mem_append_left _ (List.mem_append_left _ (List.mem_append_right _ (List.mem_append_right _ (List.mem_append_right _ (List.mem_append_right _ (List.mem_append_right _ (List.mem_append_right _ (List.mem_append_right _ (List.mem_append_right _ (List.mem_append_right _ (List.mem_append_right _ (List.mem_append_right _ (List.mem_append_right _ (List.mem_append_right _ (List.mem_append_right _ (List.mem_append_right _ (List.mem_append_right _ (List.mem_append_right _ (List.mem_append_right _ (List.mem_append_right _ (List.mem_append_right _ (List.mem_append_right _ (List.mem_append_right _ (List.mem_append_right _ (List.mem_append_right _ (List.mem_append_right _ (List.mem_append_right _ (List.mem_append_right _ (List.mem_append_right _ (List.mem_append_left _ h))))))))))))))))))))))))))))))))))))))))))
theorem zr_30 : ∀ w ∈ wsL_law0_r30, w ∈ wsL_law := fun _ h => (List.mem_append_left _ (List.mem_append_left _ (List.mem_append_left _ (List.mem_append_left _ (List.mem_append_left _ (List.mem_append_left _ (List.mem_append_left _ (List.mem_append_left _ (List.mem_append_left _ (List.mem_append_left _ (List.mem_append_left _ (List.mem_append_left _ (List.mem_append_left _ (List.mem_append_right _ (List.mem_append_right _ (List.mem_append_right _ (List.mem_append_right _ (List.mem_append_right _ (List.mem_append_right _ (List.mem_append_right _ (List.mem_append_right _ (List.mem_append_right _ (List.mem_append_right _ (List.mem_append_right _ (List.mem_append_right _ (List.mem_append_right _ (List.mem_append_right _ (List.mem_append_right _ (List.mem_append_right _ (List.mem_append_right _ (List.mem_append_right _ (List.mem_append_right _ (List.mem_append_right _ (List.mem_append_right _ (List.mem_append_right _ (List.mem_append_right _ (List.mem_append_right _ (List.mem_append_right _ (List.mem_append_right _ (List.mem_append_right _ (List.mem_append_right _ (List.mem_append_right _ (List.mem_append_left _ h)))))))))))))))))))))))))))))))))))))))))))
theorem zr_31 : ∀ w ∈ wsL_law0_r31, w ∈ wsL_law := fun _ h => (List.mem_append_left _ (List.mem_append_left _ (List.mem_append_left _ (List.mem_append_left _ (List.mem_append_left _ (List.mem_append_left _ (List.mem_append_left _ (List.mem_append_left _ (List.mem_append_left _ (List.mem_append_left _ (List.mem_append_left _ (List.mem_append_left _ (List.mem_append_left _ (List.mem_append_right _ (List.mem_append_right _ (List.mem_append_right _ (List.mem_append_right _ (List.mem_append_right _ (List.mem_append_right _ (List.mem_append_right _ (List.mem_append_right _ (List.mem_append_right _ (List.mem_append_right _ (List.mem_append_right _ (List.mem_append_right _ (List.mem_append_right _ (List.mem_append_right _ (List.mem_append_right _ (List.mem_append_right _ (List.mem_append_right _ (List.mem_append_right _ (List.mem_append_right _ (List.mem_append_right _ (List.mem_append_right _ (List.mem_append_right _ (List.mem_append_right _ (List.mem_append_right _ (List.mem_append_right _ (List.mem_append_right _ (List.mem_append_right _ (List.mem_append_right _ (List.mem_append_right _ (List.mem_append_right _ h)))))))))))))))))))))))))))))))))))))))))))
theorem zF_X0_11 : Cond.fieldLink RX0 11 "StampWorks$Box" "stamps" "[LStampWorks$Stamp;" ∈ wsL_law := zr_2 _ (List.mem_of_getElem? (i := 21) rfl)
theorem zF_X0_21 : Cond.fieldLink RX0 21 "StampWorks$Box" "lumps" "LStampWorks$Ore;" ∈ wsL_law := zr_3 _ (List.mem_of_getElem? (i := 1) rfl)
theorem zF_X0_25 : Cond.fieldLink RX0 25 "StampWorks$Box" "grit" "LStampWorks$Ore;" ∈ wsL_law := zr_3 _ (List.mem_of_getElem? (i := 2) rfl)
theorem zF_X0_28 : Cond.fieldLink RX0 28 "StampWorks$Box" "sand" "LStampWorks$Ore;" ∈ wsL_law := zr_3 _ (List.mem_of_getElem? (i := 3) rfl)
theorem zF_X0_31 : Cond.fieldLink RX0 31 "StampWorks$Box" "feed" "I" ∈ wsL_law := zr_3 _ (List.mem_of_getElem? (i := 4) rfl)
theorem zF_X0_35 : Cond.fieldLink RX0 35 "StampWorks$Box" "hardness" "I" ∈ wsL_law := zr_3 _ (List.mem_of_getElem? (i := 5) rfl)
theorem zF_X0_38 : Cond.fieldLink RX0 38 "StampWorks$Box" "stampCount" "I" ∈ wsL_law := zr_8 _ (List.mem_of_getElem? (i := 9) rfl)
theorem zF_X0_41 : Cond.fieldLink RX0 41 "StampWorks$Stamp" "weight" "I" ∈ wsL_law := zr_8 _ (List.mem_of_getElem? (i := 10) rfl)
theorem zF_X0_44 : Cond.fieldLink RX0 44 "StampWorks$Stamp" "cams" "I" ∈ wsL_law := zr_8 _ (List.mem_of_getElem? (i := 11) rfl)
theorem zF_X0_47 : Cond.fieldLink RX0 47 "StampWorks$Box" "buddle" "I" ∈ wsL_law := zr_10 _ (List.mem_of_getElem? (i := 9) rfl)
theorem zF_X0_50 : Cond.fieldLink RX0 50 "StampWorks$Ore" "rock" "I" ∈ wsL_law := zr_10 _ (List.mem_of_getElem? (i := 10) rfl)
theorem zF_X0_53 : Cond.fieldLink RX0 53 "StampWorks$Ore" "tin" "I" ∈ wsL_law := zr_10 _ (List.mem_of_getElem? (i := 11) rfl)
theorem zF_X0_60 : Cond.fieldLink RX0 60 "StampWorks$Box" "force" "I" ∈ wsL_law := zr_10 _ (List.mem_of_getElem? (i := 12) rfl)
theorem zF_X0_63 : Cond.fieldLink RX0 63 "StampWorks$Stamp" "wear" "I" ∈ wsL_law := zr_10 _ (List.mem_of_getElem? (i := 17) rfl)
theorem zF_X1_11 : Cond.fieldLink RX1 11 "StampWorks$Hopper" "ring" "[LStampWorks$Lot;" ∈ wsL_law := zr_3 _ (List.mem_of_getElem? (i := 17) rfl)
theorem zF_X1_18 : Cond.fieldLink RX1 18 "StampWorks$Hopper" "first" "I" ∈ wsL_law := zr_12 _ (List.mem_of_getElem? (i := 2) rfl)
theorem zF_X1_28 : Cond.fieldLink RX1 28 "StampWorks$Hopper" "count" "I" ∈ wsL_law := zr_11 _ (List.mem_of_getElem? (i := 19) rfl)
theorem zF_X1_35 : Cond.fieldLink RX1 35 "StampWorks$Lot" "ore" "LStampWorks$Ore;" ∈ wsL_law := zr_11 _ (List.mem_of_getElem? (i := 20) rfl)
theorem zF_X1_45 : Cond.fieldLink RX1 45 "StampWorks$Lot" "hardness" "I" ∈ wsL_law := zr_11 _ (List.mem_of_getElem? (i := 21) rfl)
theorem zF_X2_10 : Cond.fieldLink RX2 10 "StampWorks$Lot" "ore" "LStampWorks$Ore;" ∈ wsL_law := zr_4 _ (List.mem_of_getElem? (i := 1) rfl)
theorem zF_X2_16 : Cond.fieldLink RX2 16 "StampWorks$Lot" "hardness" "I" ∈ wsL_law := zr_13 _ (List.mem_of_getElem? (i := 10) rfl)
theorem zF_X3_7 : Cond.fieldLink RX3 7 "StampWorks$Ore" "rock" "I" ∈ wsL_law := zr_12 _ (List.mem_of_getElem? (i := 11) rfl)
theorem zF_X3_13 : Cond.fieldLink RX3 13 "StampWorks$Ore" "tin" "I" ∈ wsL_law := zr_12 _ (List.mem_of_getElem? (i := 12) rfl)
theorem zF_X4_9 : Cond.fieldLink RX4 9 "StampWorks$Stamp" "weight" "I" ∈ wsL_law := zr_16 _ (List.mem_of_getElem? (i := 1) rfl)
theorem zF_X4_15 : Cond.fieldLink RX4 15 "StampWorks$Stamp" "cams" "I" ∈ wsL_law := zr_16 _ (List.mem_of_getElem? (i := 2) rfl)
theorem zF_X4_18 : Cond.fieldLink RX4 18 "StampWorks$Stamp" "wear" "I" ∈ wsL_law := zr_17 _ (List.mem_of_getElem? (i := 23) rfl)
theorem zF_X5_9 : Cond.fieldLink RX5 9 "StampWorks$Works" "inflow" "[I" ∈ wsL_law := zr_1 _ (List.mem_of_getElem? (i := 23) rfl)
theorem zF_X5_17 : Cond.fieldLink RX5 17 "StampWorks$Works" "boxes" "[LStampWorks$Box;" ∈ wsL_law := zr_2 _ (List.mem_of_getElem? (i := 1) rfl)
theorem zF_X5_25 : Cond.fieldLink RX5 25 "StampWorks$Works" "hopper" "LStampWorks$Hopper;" ∈ wsL_law := zr_2 _ (List.mem_of_getElem? (i := 7) rfl)
theorem zF_X5_31 : Cond.fieldLink RX5 31 "StampWorks$Works" "buddles" "[LStampWorks$Ore;" ∈ wsL_law := zr_2 _ (List.mem_of_getElem? (i := 9) rfl)
theorem zF_X5_36 : Cond.fieldLink RX5 36 "StampWorks$Works" "store" "LStampWorks$Ore;" ∈ wsL_law := zr_2 _ (List.mem_of_getElem? (i := 12) rfl)
theorem zF_X5_40 : Cond.fieldLink RX5 40 "StampWorks$Works" "tails" "LStampWorks$Ore;" ∈ wsL_law := zr_2 _ (List.mem_of_getElem? (i := 13) rfl)
theorem zF_X5_43 : Cond.fieldLink RX5 43 "StampWorks$Works" "pond" "I" ∈ wsL_law := zr_2 _ (List.mem_of_getElem? (i := 14) rfl)
theorem zF_X5_47 : Cond.fieldLink RX5 47 "StampWorks$Works" "sluice" "I" ∈ wsL_law := zr_2 _ (List.mem_of_getElem? (i := 15) rfl)
theorem zF_X5_50 : Cond.fieldLink RX5 50 "StampWorks$Works" "hour" "I" ∈ wsL_law := zr_15 _ (List.mem_of_getElem? (i := 4) rfl)
theorem zF_X5_53 : Cond.fieldLink RX5 53 "StampWorks$Works" "boxCount" "I" ∈ wsL_law := zr_15 _ (List.mem_of_getElem? (i := 3) rfl)
theorem zF_X5_56 : Cond.fieldLink RX5 56 "StampWorks$Hopper" "count" "I" ∈ wsL_law := zr_21 _ (List.mem_of_getElem? (i := 5) rfl)
theorem zF_X5_66 : Cond.fieldLink RX5 66 "StampWorks$Ore" "rock" "I" ∈ wsL_law := zr_21 _ (List.mem_of_getElem? (i := 6) rfl)
theorem zF_X5_69 : Cond.fieldLink RX5 69 "StampWorks$Ore" "tin" "I" ∈ wsL_law := zr_21 _ (List.mem_of_getElem? (i := 7) rfl)
theorem zF_X5_72 : Cond.fieldLink RX5 72 "StampWorks$Works" "slime" "I" ∈ wsL_law := zr_16 _ (List.mem_of_getElem? (i := 10) rfl)
theorem zF_X5_75 : Cond.fieldLink RX5 75 "StampWorks$Works" "metal" "I" ∈ wsL_law := zr_21 _ (List.mem_of_getElem? (i := 8) rfl)
theorem zF_X5_109 : Cond.fieldLink RX5 109 "StampWorks$Box" "lumps" "LStampWorks$Ore;" ∈ wsL_law := zr_16 _ (List.mem_of_getElem? (i := 7) rfl)
theorem zF_X5_112 : Cond.fieldLink RX5 112 "StampWorks$Box" "feed" "I" ∈ wsL_law := zr_16 _ (List.mem_of_getElem? (i := 8) rfl)
theorem zF_X5_115 : Cond.fieldLink RX5 115 "StampWorks$Box" "hardness" "I" ∈ wsL_law := zr_16 _ (List.mem_of_getElem? (i := 9) rfl)
theorem zF_X5_129 : Cond.fieldLink RX5 129 "StampWorks$Box" "buddle" "I" ∈ wsL_law := zr_16 _ (List.mem_of_getElem? (i := 11) rfl)
theorem zF_X6_10 : Cond.fieldLink RX6 10 "StampWorks" "works" "LStampWorks$Works;" ∈ wsL_law := zr_1 _ (List.mem_of_getElem? (i := 16) rfl)
theorem zF_X6_16 : Cond.fieldLink RX6 16 "StampWorks" "trial" "LStampWorks$Works;" ∈ wsL_law := zr_1 _ (List.mem_of_getElem? (i := 17) rfl)
theorem zF_X6_31 : Cond.fieldLink RX6 31 "StampWorks$Works" "inflow" "[I" ∈ wsL_law := zr_5 _ (List.mem_of_getElem? (i := 20) rfl)
theorem zF_X6_37 : Cond.fieldLink RX6 37 "StampWorks$Works" "sluice" "I" ∈ wsL_law := zr_6 _ (List.mem_of_getElem? (i := 20) rfl)
theorem zF_X6_41 : Cond.fieldLink RX6 41 "StampWorks$Works" "boxCount" "I" ∈ wsL_law := zr_7 _ (List.mem_of_getElem? (i := 11) rfl)
theorem zF_X6_57 : Cond.fieldLink RX6 57 "StampWorks$Box" "stampCount" "I" ∈ wsL_law := zr_7 _ (List.mem_of_getElem? (i := 23) rfl)
theorem zF_X6_70 : Cond.fieldLink RX6 70 "StampWorks$Box" "stamps" "[LStampWorks$Stamp;" ∈ wsL_law := zr_9 _ (List.mem_of_getElem? (i := 3) rfl)
theorem zF_X6_74 : Cond.fieldLink RX6 74 "StampWorks$Stamp" "wear" "I" ∈ wsL_law := zr_9 _ (List.mem_of_getElem? (i := 4) rfl)
theorem zF_X6_83 : Cond.fieldLink RX6 83 "StampWorks$Box" "feed" "I" ∈ wsL_law := zr_9 _ (List.mem_of_getElem? (i := 16) rfl)
theorem zF_X6_86 : Cond.fieldLink RX6 86 "StampWorks$Box" "buddle" "I" ∈ wsL_law := zr_9 _ (List.mem_of_getElem? (i := 17) rfl)
theorem zF_X6_104 : Cond.fieldLink RX6 104 "StampWorks$Works" "hopper" "LStampWorks$Hopper;" ∈ wsL_law := zr_11 _ (List.mem_of_getElem? (i := 9) rfl)
theorem zF_X6_114 : Cond.fieldLink RX6 114 "StampWorks$Hopper" "count" "I" ∈ wsL_law := zr_11 _ (List.mem_of_getElem? (i := 10) rfl)
theorem zF_X6_168 : Cond.fieldLink RX6 168 "StampWorks$Works" "store" "LStampWorks$Ore;" ∈ wsL_law := zr_25 _ (List.mem_of_getElem? (i := 9) rfl)
theorem zF_X6_188 : Cond.fieldLink RX6 188 "StampWorks$Works" "pond" "I" ∈ wsL_law := zr_26 _ (List.mem_of_getElem? (i := 16) rfl)
theorem zF_X6_194 : Cond.fieldLink RX6 194 "StampWorks$Works" "slime" "I" ∈ wsL_law := zr_26 _ (List.mem_of_getElem? (i := 17) rfl)
theorem zF_X6_202 : Cond.fieldLink RX6 202 "StampWorks$Ore" "tin" "I" ∈ wsL_law := zr_29 _ (List.mem_of_getElem? (i := 16) rfl)
theorem zF_X6_209 : Cond.fieldLink RX6 209 "StampWorks$Ore" "rock" "I" ∈ wsL_law := zr_29 _ (List.mem_of_getElem? (i := 17) rfl)
theorem zF_X6_218 : Cond.fieldLink RX6 218 "StampWorks$Works" "metal" "I" ∈ wsL_law := zr_30 _ (List.mem_of_getElem? (i := 5) rfl)
theorem zF_X6_221 : Cond.fieldLink RX6 221 "StampWorks$Works" "tails" "LStampWorks$Ore;" ∈ wsL_law := zr_30 _ (List.mem_of_getElem? (i := 6) rfl)
theorem zF_X6_230 : Cond.fieldLink RX6 230 "StampWorks$Works" "boxes" "[LStampWorks$Box;" ∈ wsL_law := zr_8 _ (List.mem_of_getElem? (i := 4) rfl)
theorem zF_X6_242 : Cond.fieldLink RX6 242 "StampWorks$Works" "buddles" "[LStampWorks$Ore;" ∈ wsL_law := zr_23 _ (List.mem_of_getElem? (i := 4) rfl)
theorem zF_X6_256 : Cond.fieldLink RX6 256 "StampWorks$Works" "hour" "I" ∈ wsL_law := zr_14 _ (List.mem_of_getElem? (i := 14) rfl)
theorem zF_X6_263 : Cond.fieldLink RX6 263 "StampWorks$Stamp" "weight" "I" ∈ wsL_law := zr_30 _ (List.mem_of_getElem? (i := 23) rfl)
theorem zF_X6_266 : Cond.fieldLink RX6 266 "StampWorks$Stamp" "cams" "I" ∈ wsL_law := zr_31 _ (List.mem_of_getElem? (i := 0) rfl)
theorem zF_X7_9 : Cond.fieldLink RX7 9 "StampWorksModel$State" "pond" "I" ∈ wsL_law := zr_4 _ (List.mem_of_getElem? (i := 16) rfl)
theorem zF_X7_15 : Cond.fieldLink RX7 15 "StampWorksModel$State" "sluice" "I" ∈ wsL_law := zr_4 _ (List.mem_of_getElem? (i := 17) rfl)
theorem zF_X7_18 : Cond.fieldLink RX7 18 "StampWorksModel$State" "inflow" "[I" ∈ wsL_law := zr_4 _ (List.mem_of_getElem? (i := 18) rfl)
theorem zF_X7_22 : Cond.fieldLink RX7 22 "StampWorksModel$State" "stamps" "[I" ∈ wsL_law := zr_4 _ (List.mem_of_getElem? (i := 19) rfl)
theorem zF_X7_25 : Cond.fieldLink RX7 25 "StampWorksModel$State" "weight" "[I" ∈ wsL_law := zr_4 _ (List.mem_of_getElem? (i := 20) rfl)
theorem zF_X7_28 : Cond.fieldLink RX7 28 "StampWorksModel$State" "cams" "[I" ∈ wsL_law := zr_4 _ (List.mem_of_getElem? (i := 21) rfl)
theorem zF_X7_31 : Cond.fieldLink RX7 31 "StampWorksModel$State" "wear" "[I" ∈ wsL_law := zr_4 _ (List.mem_of_getElem? (i := 22) rfl)
theorem zF_X7_34 : Cond.fieldLink RX7 34 "StampWorksModel$State" "feed" "[I" ∈ wsL_law := zr_4 _ (List.mem_of_getElem? (i := 23) rfl)
theorem zF_X7_37 : Cond.fieldLink RX7 37 "StampWorksModel$State" "goes" "[I" ∈ wsL_law := zr_5 _ (List.mem_of_getElem? (i := 0) rfl)
theorem zF_X7_40 : Cond.fieldLink RX7 40 "StampWorksModel$State" "hardness" "[I" ∈ wsL_law := zr_5 _ (List.mem_of_getElem? (i := 1) rfl)
theorem zF_X7_43 : Cond.fieldLink RX7 43 "StampWorksModel$State" "force" "[I" ∈ wsL_law := zr_5 _ (List.mem_of_getElem? (i := 2) rfl)
theorem zF_X7_46 : Cond.fieldLink RX7 46 "StampWorksModel$State" "ore" "[I" ∈ wsL_law := zr_5 _ (List.mem_of_getElem? (i := 3) rfl)
theorem zF_X7_49 : Cond.fieldLink RX7 49 "StampWorksModel$State" "lot" "[I" ∈ wsL_law := zr_5 _ (List.mem_of_getElem? (i := 4) rfl)
theorem zF_X7_52 : Cond.fieldLink RX7 52 "StampWorksModel$State" "buddle" "[I" ∈ wsL_law := zr_5 _ (List.mem_of_getElem? (i := 5) rfl)
theorem zF_X7_61 : Cond.fieldLink RX7 61 "StampWorksModel$State" "hour" "I" ∈ wsL_law := zr_19 _ (List.mem_of_getElem? (i := 7) rfl)
theorem zF_X7_64 : Cond.fieldLink RX7 64 "StampWorksModel$State" "boxes" "I" ∈ wsL_law := zr_19 _ (List.mem_of_getElem? (i := 9) rfl)
theorem zF_X7_67 : Cond.fieldLink RX7 67 "StampWorksModel$State" "lots" "I" ∈ wsL_law := zr_12 _ (List.mem_of_getElem? (i := 21) rfl)
theorem zF_X7_70 : Cond.fieldLink RX7 70 "StampWorksModel$State" "slime" "I" ∈ wsL_law := zr_19 _ (List.mem_of_getElem? (i := 11) rfl)
theorem zF_X8_10 : Cond.fieldLink RX8 10 "StampWorksModel" "s" "LStampWorksModel$State;" ∈ wsL_law := zr_4 _ (List.mem_of_getElem? (i := 9) rfl)
theorem zF_X8_16 : Cond.fieldLink RX8 16 "StampWorksModel" "ahead" "LStampWorksModel$State;" ∈ wsL_law := zr_4 _ (List.mem_of_getElem? (i := 10) rfl)
theorem zF_X8_19 : Cond.fieldLink RX8 19 "StampWorksModel" "store" "[I" ∈ wsL_law := zr_4 _ (List.mem_of_getElem? (i := 11) rfl)
theorem zF_X8_23 : Cond.fieldLink RX8 23 "StampWorksModel" "thrown" "I" ∈ wsL_law := zr_6 _ (List.mem_of_getElem? (i := 1) rfl)
theorem zF_X8_112 : Cond.fieldLink RX8 112 "StampWorksModel" "tailTin" "I" ∈ wsL_law := zr_22 _ (List.mem_of_getElem? (i := 5) rfl)
theorem zF_X8_115 : Cond.fieldLink RX8 115 "StampWorksModel" "tailRock" "I" ∈ wsL_law := zr_22 _ (List.mem_of_getElem? (i := 6) rfl)
theorem zF_X8_118 : Cond.fieldLink RX8 118 "StampWorksModel" "metal" "I" ∈ wsL_law := zr_22 _ (List.mem_of_getElem? (i := 7) rfl)
theorem zg_X0_11 {p : Program} {l : Launch} {e : Env} {R : Room} {s : State} {mi : MethodId} {args : Array Value} {below : List Frame} {meth : Method} {c : Code} {H H0 : Heap} {locs : List Loc} {cells slots : Nat} {Q : State → Prop} {cc : ByteArray} {pc : Nat} {ls : Array Slot} {rest : List Value} {D : va_G} {cy : Nat → ClassId} {ad : ZN → Nat} {L : List ZN} {m : ZM} (C : zX p s mi args c cc RX0 D cy) (hw : zH D cy ad L H0 H locs m) {a b : Nat} (hn : (4, a, b) ∈ L) (hdg : decode cc pc = .ok (.getfield 11, 3)) (kk : W p l e R s mi args below meth c H locs cells slots Q (F0 mi (pc + 3) ls (.ref (ad (5, a, b)) :: rest))) : W p l e R s mi args below meth c H locs cells slots Q (F0 mi pc ls (.ref (ad (4, a, b)) :: rest)) := zget (n := (4, a, b)) C hw hn rfl rfl inlX0 0 (by decide) zF_X0_11 rfl rfl hdg kk
theorem zg_X0_21 {p : Program} {l : Launch} {e : Env} {R : Room} {s : State} {mi : MethodId} {args : Array Value} {below : List Frame} {meth : Method} {c : Code} {H H0 : Heap} {locs : List Loc} {cells slots : Nat} {Q : State → Prop} {cc : ByteArray} {pc : Nat} {ls : Array Slot} {rest : List Value} {D : va_G} {cy : Nat → ClassId} {ad : ZN → Nat} {L : List ZN} {m : ZM} (C : zX p s mi args c cc RX0 D cy) (hw : zH D cy ad L H0 H locs m) {a b : Nat} (hn : (4, a, b) ∈ L) (hdg : decode cc pc = .ok (.getfield 21, 3)) (kk : W p l e R s mi args below meth c H locs cells slots Q (F0 mi (pc + 3) ls (.ref (ad (7, a, 3 * b)) :: rest))) : W p l e R s mi args below meth c H locs cells slots Q (F0 mi pc ls (.ref (ad (4, a, b)) :: rest)) := zget (n := (4, a, b)) C hw hn rfl rfl inlX0 1 (by decide) zF_X0_21 rfl rfl hdg kk
theorem zg_X0_25 {p : Program} {l : Launch} {e : Env} {R : Room} {s : State} {mi : MethodId} {args : Array Value} {below : List Frame} {meth : Method} {c : Code} {H H0 : Heap} {locs : List Loc} {cells slots : Nat} {Q : State → Prop} {cc : ByteArray} {pc : Nat} {ls : Array Slot} {rest : List Value} {D : va_G} {cy : Nat → ClassId} {ad : ZN → Nat} {L : List ZN} {m : ZM} (C : zX p s mi args c cc RX0 D cy) (hw : zH D cy ad L H0 H locs m) {a b : Nat} (hn : (4, a, b) ∈ L) (hdg : decode cc pc = .ok (.getfield 25, 3)) (kk : W p l e R s mi args below meth c H locs cells slots Q (F0 mi (pc + 3) ls (.ref (ad (7, a, 3 * b + 1)) :: rest))) : W p l e R s mi args below meth c H locs cells slots Q (F0 mi pc ls (.ref (ad (4, a, b)) :: rest)) := zget (n := (4, a, b)) C hw hn rfl rfl inlX0 2 (by decide) zF_X0_25 rfl rfl hdg kk
theorem zg_X0_28 {p : Program} {l : Launch} {e : Env} {R : Room} {s : State} {mi : MethodId} {args : Array Value} {below : List Frame} {meth : Method} {c : Code} {H H0 : Heap} {locs : List Loc} {cells slots : Nat} {Q : State → Prop} {cc : ByteArray} {pc : Nat} {ls : Array Slot} {rest : List Value} {D : va_G} {cy : Nat → ClassId} {ad : ZN → Nat} {L : List ZN} {m : ZM} (C : zX p s mi args c cc RX0 D cy) (hw : zH D cy ad L H0 H locs m) {a b : Nat} (hn : (4, a, b) ∈ L) (hdg : decode cc pc = .ok (.getfield 28, 3)) (kk : W p l e R s mi args below meth c H locs cells slots Q (F0 mi (pc + 3) ls (.ref (ad (7, a, 3 * b + 2)) :: rest))) : W p l e R s mi args below meth c H locs cells slots Q (F0 mi pc ls (.ref (ad (4, a, b)) :: rest)) := zget (n := (4, a, b)) C hw hn rfl rfl inlX0 3 (by decide) zF_X0_28 rfl rfl hdg kk
theorem zg_X0_31 {p : Program} {l : Launch} {e : Env} {R : Room} {s : State} {mi : MethodId} {args : Array Value} {below : List Frame} {meth : Method} {c : Code} {H H0 : Heap} {locs : List Loc} {cells slots : Nat} {Q : State → Prop} {cc : ByteArray} {pc : Nat} {ls : Array Slot} {rest : List Value} {D : va_G} {cy : Nat → ClassId} {ad : ZN → Nat} {L : List ZN} {m : ZM} (C : zX p s mi args c cc RX0 D cy) (hw : zH D cy ad L H0 H locs m) {a b : Nat} (hn : (4, a, b) ∈ L) (hdg : decode cc pc = .ok (.getfield 31, 3)) (kk : W p l e R s mi args below meth c H locs cells slots Q (F0 mi (pc + 3) ls (.int (m (4, a, b) 5) :: rest))) : W p l e R s mi args below meth c H locs cells slots Q (F0 mi pc ls (.ref (ad (4, a, b)) :: rest)) := zget (n := (4, a, b)) C hw hn rfl rfl inlX0 5 (by decide) zF_X0_31 rfl rfl hdg kk
theorem zg_X0_35 {p : Program} {l : Launch} {e : Env} {R : Room} {s : State} {mi : MethodId} {args : Array Value} {below : List Frame} {meth : Method} {c : Code} {H H0 : Heap} {locs : List Loc} {cells slots : Nat} {Q : State → Prop} {cc : ByteArray} {pc : Nat} {ls : Array Slot} {rest : List Value} {D : va_G} {cy : Nat → ClassId} {ad : ZN → Nat} {L : List ZN} {m : ZM} (C : zX p s mi args c cc RX0 D cy) (hw : zH D cy ad L H0 H locs m) {a b : Nat} (hn : (4, a, b) ∈ L) (hdg : decode cc pc = .ok (.getfield 35, 3)) (kk : W p l e R s mi args below meth c H locs cells slots Q (F0 mi (pc + 3) ls (.int (m (4, a, b) 7) :: rest))) : W p l e R s mi args below meth c H locs cells slots Q (F0 mi pc ls (.ref (ad (4, a, b)) :: rest)) := zget (n := (4, a, b)) C hw hn rfl rfl inlX0 7 (by decide) zF_X0_35 rfl rfl hdg kk
theorem zg_X0_38 {p : Program} {l : Launch} {e : Env} {R : Room} {s : State} {mi : MethodId} {args : Array Value} {below : List Frame} {meth : Method} {c : Code} {H H0 : Heap} {locs : List Loc} {cells slots : Nat} {Q : State → Prop} {cc : ByteArray} {pc : Nat} {ls : Array Slot} {rest : List Value} {D : va_G} {cy : Nat → ClassId} {ad : ZN → Nat} {L : List ZN} {m : ZM} (C : zX p s mi args c cc RX0 D cy) (hw : zH D cy ad L H0 H locs m) {a b : Nat} (hn : (4, a, b) ∈ L) (hdg : decode cc pc = .ok (.getfield 38, 3)) (kk : W p l e R s mi args below meth c H locs cells slots Q (F0 mi (pc + 3) ls (.int (m (4, a, b) 4) :: rest))) : W p l e R s mi args below meth c H locs cells slots Q (F0 mi pc ls (.ref (ad (4, a, b)) :: rest)) := zget (n := (4, a, b)) C hw hn rfl rfl inlX0 4 (by decide) zF_X0_38 rfl rfl hdg kk
theorem zg_X0_47 {p : Program} {l : Launch} {e : Env} {R : Room} {s : State} {mi : MethodId} {args : Array Value} {below : List Frame} {meth : Method} {c : Code} {H H0 : Heap} {locs : List Loc} {cells slots : Nat} {Q : State → Prop} {cc : ByteArray} {pc : Nat} {ls : Array Slot} {rest : List Value} {D : va_G} {cy : Nat → ClassId} {ad : ZN → Nat} {L : List ZN} {m : ZM} (C : zX p s mi args c cc RX0 D cy) (hw : zH D cy ad L H0 H locs m) {a b : Nat} (hn : (4, a, b) ∈ L) (hdg : decode cc pc = .ok (.getfield 47, 3)) (kk : W p l e R s mi args below meth c H locs cells slots Q (F0 mi (pc + 3) ls (.int (m (4, a, b) 6) :: rest))) : W p l e R s mi args below meth c H locs cells slots Q (F0 mi pc ls (.ref (ad (4, a, b)) :: rest)) := zget (n := (4, a, b)) C hw hn rfl rfl inlX0 6 (by decide) zF_X0_47 rfl rfl hdg kk
theorem zg_X0_50 {p : Program} {l : Launch} {e : Env} {R : Room} {s : State} {mi : MethodId} {args : Array Value} {below : List Frame} {meth : Method} {c : Code} {H H0 : Heap} {locs : List Loc} {cells slots : Nat} {Q : State → Prop} {cc : ByteArray} {pc : Nat} {ls : Array Slot} {rest : List Value} {D : va_G} {cy : Nat → ClassId} {ad : ZN → Nat} {L : List ZN} {m : ZM} (C : zX p s mi args c cc RX0 D cy) (hw : zH D cy ad L H0 H locs m) {a b : Nat} (hn : (7, a, b) ∈ L) (hdg : decode cc pc = .ok (.getfield 50, 3)) (kk : W p l e R s mi args below meth c H locs cells slots Q (F0 mi (pc + 3) ls (.int (m (7, a, b) 0) :: rest))) : W p l e R s mi args below meth c H locs cells slots Q (F0 mi pc ls (.ref (ad (7, a, b)) :: rest)) := zget (n := (7, a, b)) C hw hn rfl rfl inlX3 0 (by decide) zF_X0_50 rfl rfl hdg kk
theorem zg_X0_53 {p : Program} {l : Launch} {e : Env} {R : Room} {s : State} {mi : MethodId} {args : Array Value} {below : List Frame} {meth : Method} {c : Code} {H H0 : Heap} {locs : List Loc} {cells slots : Nat} {Q : State → Prop} {cc : ByteArray} {pc : Nat} {ls : Array Slot} {rest : List Value} {D : va_G} {cy : Nat → ClassId} {ad : ZN → Nat} {L : List ZN} {m : ZM} (C : zX p s mi args c cc RX0 D cy) (hw : zH D cy ad L H0 H locs m) {a b : Nat} (hn : (7, a, b) ∈ L) (hdg : decode cc pc = .ok (.getfield 53, 3)) (kk : W p l e R s mi args below meth c H locs cells slots Q (F0 mi (pc + 3) ls (.int (m (7, a, b) 1) :: rest))) : W p l e R s mi args below meth c H locs cells slots Q (F0 mi pc ls (.ref (ad (7, a, b)) :: rest)) := zget (n := (7, a, b)) C hw hn rfl rfl inlX3 1 (by decide) zF_X0_53 rfl rfl hdg kk
theorem zg_X0_60 {p : Program} {l : Launch} {e : Env} {R : Room} {s : State} {mi : MethodId} {args : Array Value} {below : List Frame} {meth : Method} {c : Code} {H H0 : Heap} {locs : List Loc} {cells slots : Nat} {Q : State → Prop} {cc : ByteArray} {pc : Nat} {ls : Array Slot} {rest : List Value} {D : va_G} {cy : Nat → ClassId} {ad : ZN → Nat} {L : List ZN} {m : ZM} (C : zX p s mi args c cc RX0 D cy) (hw : zH D cy ad L H0 H locs m) {a b : Nat} (hn : (4, a, b) ∈ L) (hdg : decode cc pc = .ok (.getfield 60, 3)) (kk : W p l e R s mi args below meth c H locs cells slots Q (F0 mi (pc + 3) ls (.int (m (4, a, b) 8) :: rest))) : W p l e R s mi args below meth c H locs cells slots Q (F0 mi pc ls (.ref (ad (4, a, b)) :: rest)) := zget (n := (4, a, b)) C hw hn rfl rfl inlX0 8 (by decide) zF_X0_60 rfl rfl hdg kk
theorem zg_X0_63 {p : Program} {l : Launch} {e : Env} {R : Room} {s : State} {mi : MethodId} {args : Array Value} {below : List Frame} {meth : Method} {c : Code} {H H0 : Heap} {locs : List Loc} {cells slots : Nat} {Q : State → Prop} {cc : ByteArray} {pc : Nat} {ls : Array Slot} {rest : List Value} {D : va_G} {cy : Nat → ClassId} {ad : ZN → Nat} {L : List ZN} {m : ZM} (C : zX p s mi args c cc RX0 D cy) (hw : zH D cy ad L H0 H locs m) {a b : Nat} (hn : (6, a, b) ∈ L) (hdg : decode cc pc = .ok (.getfield 63, 3)) (kk : W p l e R s mi args below meth c H locs cells slots Q (F0 mi (pc + 3) ls (.int (m (6, a, b) 2) :: rest))) : W p l e R s mi args below meth c H locs cells slots Q (F0 mi pc ls (.ref (ad (6, a, b)) :: rest)) := zget (n := (6, a, b)) C hw hn rfl rfl inlX4 2 (by decide) zF_X0_63 rfl rfl hdg kk
theorem zg_X1_11 {p : Program} {l : Launch} {e : Env} {R : Room} {s : State} {mi : MethodId} {args : Array Value} {below : List Frame} {meth : Method} {c : Code} {H H0 : Heap} {locs : List Loc} {cells slots : Nat} {Q : State → Prop} {cc : ByteArray} {pc : Nat} {ls : Array Slot} {rest : List Value} {D : va_G} {cy : Nat → ClassId} {ad : ZN → Nat} {L : List ZN} {m : ZM} (C : zX p s mi args c cc RX1 D cy) (hw : zH D cy ad L H0 H locs m) {a b : Nat} (hn : (8, a, b) ∈ L) (hdg : decode cc pc = .ok (.getfield 11, 3)) (kk : W p l e R s mi args below meth c H locs cells slots Q (F0 mi (pc + 3) ls (.ref (ad (9, a, 0)) :: rest))) : W p l e R s mi args below meth c H locs cells slots Q (F0 mi pc ls (.ref (ad (8, a, b)) :: rest)) := zget (n := (8, a, b)) C hw hn rfl rfl inlX1 0 (by decide) zF_X1_11 rfl rfl hdg kk
theorem zg_X1_18 {p : Program} {l : Launch} {e : Env} {R : Room} {s : State} {mi : MethodId} {args : Array Value} {below : List Frame} {meth : Method} {c : Code} {H H0 : Heap} {locs : List Loc} {cells slots : Nat} {Q : State → Prop} {cc : ByteArray} {pc : Nat} {ls : Array Slot} {rest : List Value} {D : va_G} {cy : Nat → ClassId} {ad : ZN → Nat} {L : List ZN} {m : ZM} (C : zX p s mi args c cc RX1 D cy) (hw : zH D cy ad L H0 H locs m) {a b : Nat} (hn : (8, a, b) ∈ L) (hdg : decode cc pc = .ok (.getfield 18, 3)) (kk : W p l e R s mi args below meth c H locs cells slots Q (F0 mi (pc + 3) ls (.int (m (8, a, b) 1) :: rest))) : W p l e R s mi args below meth c H locs cells slots Q (F0 mi pc ls (.ref (ad (8, a, b)) :: rest)) := zget (n := (8, a, b)) C hw hn rfl rfl inlX1 1 (by decide) zF_X1_18 rfl rfl hdg kk
theorem zg_X1_28 {p : Program} {l : Launch} {e : Env} {R : Room} {s : State} {mi : MethodId} {args : Array Value} {below : List Frame} {meth : Method} {c : Code} {H H0 : Heap} {locs : List Loc} {cells slots : Nat} {Q : State → Prop} {cc : ByteArray} {pc : Nat} {ls : Array Slot} {rest : List Value} {D : va_G} {cy : Nat → ClassId} {ad : ZN → Nat} {L : List ZN} {m : ZM} (C : zX p s mi args c cc RX1 D cy) (hw : zH D cy ad L H0 H locs m) {a b : Nat} (hn : (8, a, b) ∈ L) (hdg : decode cc pc = .ok (.getfield 28, 3)) (kk : W p l e R s mi args below meth c H locs cells slots Q (F0 mi (pc + 3) ls (.int (m (8, a, b) 2) :: rest))) : W p l e R s mi args below meth c H locs cells slots Q (F0 mi pc ls (.ref (ad (8, a, b)) :: rest)) := zget (n := (8, a, b)) C hw hn rfl rfl inlX1 2 (by decide) zF_X1_28 rfl rfl hdg kk
theorem zg_X1_35 {p : Program} {l : Launch} {e : Env} {R : Room} {s : State} {mi : MethodId} {args : Array Value} {below : List Frame} {meth : Method} {c : Code} {H H0 : Heap} {locs : List Loc} {cells slots : Nat} {Q : State → Prop} {cc : ByteArray} {pc : Nat} {ls : Array Slot} {rest : List Value} {D : va_G} {cy : Nat → ClassId} {ad : ZN → Nat} {L : List ZN} {m : ZM} (C : zX p s mi args c cc RX1 D cy) (hw : zH D cy ad L H0 H locs m) {a b : Nat} (hn : (10, a, b) ∈ L) (hdg : decode cc pc = .ok (.getfield 35, 3)) (kk : W p l e R s mi args below meth c H locs cells slots Q (F0 mi (pc + 3) ls (.ref (ad (7, a, 12 + b)) :: rest))) : W p l e R s mi args below meth c H locs cells slots Q (F0 mi pc ls (.ref (ad (10, a, b)) :: rest)) := zget (n := (10, a, b)) C hw hn rfl rfl inlX2 0 (by decide) zF_X1_35 rfl rfl hdg kk
theorem zg_X1_45 {p : Program} {l : Launch} {e : Env} {R : Room} {s : State} {mi : MethodId} {args : Array Value} {below : List Frame} {meth : Method} {c : Code} {H H0 : Heap} {locs : List Loc} {cells slots : Nat} {Q : State → Prop} {cc : ByteArray} {pc : Nat} {ls : Array Slot} {rest : List Value} {D : va_G} {cy : Nat → ClassId} {ad : ZN → Nat} {L : List ZN} {m : ZM} (C : zX p s mi args c cc RX1 D cy) (hw : zH D cy ad L H0 H locs m) {a b : Nat} (hn : (10, a, b) ∈ L) (hdg : decode cc pc = .ok (.getfield 45, 3)) (kk : W p l e R s mi args below meth c H locs cells slots Q (F0 mi (pc + 3) ls (.int (m (10, a, b) 1) :: rest))) : W p l e R s mi args below meth c H locs cells slots Q (F0 mi pc ls (.ref (ad (10, a, b)) :: rest)) := zget (n := (10, a, b)) C hw hn rfl rfl inlX2 1 (by decide) zF_X1_45 rfl rfl hdg kk
theorem zg_X2_10 {p : Program} {l : Launch} {e : Env} {R : Room} {s : State} {mi : MethodId} {args : Array Value} {below : List Frame} {meth : Method} {c : Code} {H H0 : Heap} {locs : List Loc} {cells slots : Nat} {Q : State → Prop} {cc : ByteArray} {pc : Nat} {ls : Array Slot} {rest : List Value} {D : va_G} {cy : Nat → ClassId} {ad : ZN → Nat} {L : List ZN} {m : ZM} (C : zX p s mi args c cc RX2 D cy) (hw : zH D cy ad L H0 H locs m) {a b : Nat} (hn : (10, a, b) ∈ L) (hdg : decode cc pc = .ok (.getfield 10, 3)) (kk : W p l e R s mi args below meth c H locs cells slots Q (F0 mi (pc + 3) ls (.ref (ad (7, a, 12 + b)) :: rest))) : W p l e R s mi args below meth c H locs cells slots Q (F0 mi pc ls (.ref (ad (10, a, b)) :: rest)) := zget (n := (10, a, b)) C hw hn rfl rfl inlX2 0 (by decide) zF_X2_10 rfl rfl hdg kk
theorem zg_X2_16 {p : Program} {l : Launch} {e : Env} {R : Room} {s : State} {mi : MethodId} {args : Array Value} {below : List Frame} {meth : Method} {c : Code} {H H0 : Heap} {locs : List Loc} {cells slots : Nat} {Q : State → Prop} {cc : ByteArray} {pc : Nat} {ls : Array Slot} {rest : List Value} {D : va_G} {cy : Nat → ClassId} {ad : ZN → Nat} {L : List ZN} {m : ZM} (C : zX p s mi args c cc RX2 D cy) (hw : zH D cy ad L H0 H locs m) {a b : Nat} (hn : (10, a, b) ∈ L) (hdg : decode cc pc = .ok (.getfield 16, 3)) (kk : W p l e R s mi args below meth c H locs cells slots Q (F0 mi (pc + 3) ls (.int (m (10, a, b) 1) :: rest))) : W p l e R s mi args below meth c H locs cells slots Q (F0 mi pc ls (.ref (ad (10, a, b)) :: rest)) := zget (n := (10, a, b)) C hw hn rfl rfl inlX2 1 (by decide) zF_X2_16 rfl rfl hdg kk
theorem zg_X3_7 {p : Program} {l : Launch} {e : Env} {R : Room} {s : State} {mi : MethodId} {args : Array Value} {below : List Frame} {meth : Method} {c : Code} {H H0 : Heap} {locs : List Loc} {cells slots : Nat} {Q : State → Prop} {cc : ByteArray} {pc : Nat} {ls : Array Slot} {rest : List Value} {D : va_G} {cy : Nat → ClassId} {ad : ZN → Nat} {L : List ZN} {m : ZM} (C : zX p s mi args c cc RX3 D cy) (hw : zH D cy ad L H0 H locs m) {a b : Nat} (hn : (7, a, b) ∈ L) (hdg : decode cc pc = .ok (.getfield 7, 3)) (kk : W p l e R s mi args below meth c H locs cells slots Q (F0 mi (pc + 3) ls (.int (m (7, a, b) 0) :: rest))) : W p l e R s mi args below meth c H locs cells slots Q (F0 mi pc ls (.ref (ad (7, a, b)) :: rest)) := zget (n := (7, a, b)) C hw hn rfl rfl inlX3 0 (by decide) zF_X3_7 rfl rfl hdg kk
theorem zg_X3_13 {p : Program} {l : Launch} {e : Env} {R : Room} {s : State} {mi : MethodId} {args : Array Value} {below : List Frame} {meth : Method} {c : Code} {H H0 : Heap} {locs : List Loc} {cells slots : Nat} {Q : State → Prop} {cc : ByteArray} {pc : Nat} {ls : Array Slot} {rest : List Value} {D : va_G} {cy : Nat → ClassId} {ad : ZN → Nat} {L : List ZN} {m : ZM} (C : zX p s mi args c cc RX3 D cy) (hw : zH D cy ad L H0 H locs m) {a b : Nat} (hn : (7, a, b) ∈ L) (hdg : decode cc pc = .ok (.getfield 13, 3)) (kk : W p l e R s mi args below meth c H locs cells slots Q (F0 mi (pc + 3) ls (.int (m (7, a, b) 1) :: rest))) : W p l e R s mi args below meth c H locs cells slots Q (F0 mi pc ls (.ref (ad (7, a, b)) :: rest)) := zget (n := (7, a, b)) C hw hn rfl rfl inlX3 1 (by decide) zF_X3_13 rfl rfl hdg kk
theorem zg_X4_9 {p : Program} {l : Launch} {e : Env} {R : Room} {s : State} {mi : MethodId} {args : Array Value} {below : List Frame} {meth : Method} {c : Code} {H H0 : Heap} {locs : List Loc} {cells slots : Nat} {Q : State → Prop} {cc : ByteArray} {pc : Nat} {ls : Array Slot} {rest : List Value} {D : va_G} {cy : Nat → ClassId} {ad : ZN → Nat} {L : List ZN} {m : ZM} (C : zX p s mi args c cc RX4 D cy) (hw : zH D cy ad L H0 H locs m) {a b : Nat} (hn : (6, a, b) ∈ L) (hdg : decode cc pc = .ok (.getfield 9, 3)) (kk : W p l e R s mi args below meth c H locs cells slots Q (F0 mi (pc + 3) ls (.int (m (6, a, b) 0) :: rest))) : W p l e R s mi args below meth c H locs cells slots Q (F0 mi pc ls (.ref (ad (6, a, b)) :: rest)) := zget (n := (6, a, b)) C hw hn rfl rfl inlX4 0 (by decide) zF_X4_9 rfl rfl hdg kk
theorem zg_X4_15 {p : Program} {l : Launch} {e : Env} {R : Room} {s : State} {mi : MethodId} {args : Array Value} {below : List Frame} {meth : Method} {c : Code} {H H0 : Heap} {locs : List Loc} {cells slots : Nat} {Q : State → Prop} {cc : ByteArray} {pc : Nat} {ls : Array Slot} {rest : List Value} {D : va_G} {cy : Nat → ClassId} {ad : ZN → Nat} {L : List ZN} {m : ZM} (C : zX p s mi args c cc RX4 D cy) (hw : zH D cy ad L H0 H locs m) {a b : Nat} (hn : (6, a, b) ∈ L) (hdg : decode cc pc = .ok (.getfield 15, 3)) (kk : W p l e R s mi args below meth c H locs cells slots Q (F0 mi (pc + 3) ls (.int (m (6, a, b) 1) :: rest))) : W p l e R s mi args below meth c H locs cells slots Q (F0 mi pc ls (.ref (ad (6, a, b)) :: rest)) := zget (n := (6, a, b)) C hw hn rfl rfl inlX4 1 (by decide) zF_X4_15 rfl rfl hdg kk
theorem zg_X4_18 {p : Program} {l : Launch} {e : Env} {R : Room} {s : State} {mi : MethodId} {args : Array Value} {below : List Frame} {meth : Method} {c : Code} {H H0 : Heap} {locs : List Loc} {cells slots : Nat} {Q : State → Prop} {cc : ByteArray} {pc : Nat} {ls : Array Slot} {rest : List Value} {D : va_G} {cy : Nat → ClassId} {ad : ZN → Nat} {L : List ZN} {m : ZM} (C : zX p s mi args c cc RX4 D cy) (hw : zH D cy ad L H0 H locs m) {a b : Nat} (hn : (6, a, b) ∈ L) (hdg : decode cc pc = .ok (.getfield 18, 3)) (kk : W p l e R s mi args below meth c H locs cells slots Q (F0 mi (pc + 3) ls (.int (m (6, a, b) 2) :: rest))) : W p l e R s mi args below meth c H locs cells slots Q (F0 mi pc ls (.ref (ad (6, a, b)) :: rest)) := zget (n := (6, a, b)) C hw hn rfl rfl inlX4 2 (by decide) zF_X4_18 rfl rfl hdg kk
theorem zg_X5_9 {p : Program} {l : Launch} {e : Env} {R : Room} {s : State} {mi : MethodId} {args : Array Value} {below : List Frame} {meth : Method} {c : Code} {H H0 : Heap} {locs : List Loc} {cells slots : Nat} {Q : State → Prop} {cc : ByteArray} {pc : Nat} {ls : Array Slot} {rest : List Value} {D : va_G} {cy : Nat → ClassId} {ad : ZN → Nat} {L : List ZN} {m : ZM} (C : zX p s mi args c cc RX5 D cy) (hw : zH D cy ad L H0 H locs m) {a b : Nat} (hn : (1, a, b) ∈ L) (hdg : decode cc pc = .ok (.getfield 9, 3)) (kk : W p l e R s mi args below meth c H locs cells slots Q (F0 mi (pc + 3) ls (.ref (ad (2, a, 24)) :: rest))) : W p l e R s mi args below meth c H locs cells slots Q (F0 mi pc ls (.ref (ad (1, a, b)) :: rest)) := zget (n := (1, a, b)) C hw hn rfl rfl inlX5 0 (by decide) zF_X5_9 rfl rfl hdg kk
theorem zg_X5_17 {p : Program} {l : Launch} {e : Env} {R : Room} {s : State} {mi : MethodId} {args : Array Value} {below : List Frame} {meth : Method} {c : Code} {H H0 : Heap} {locs : List Loc} {cells slots : Nat} {Q : State → Prop} {cc : ByteArray} {pc : Nat} {ls : Array Slot} {rest : List Value} {D : va_G} {cy : Nat → ClassId} {ad : ZN → Nat} {L : List ZN} {m : ZM} (C : zX p s mi args c cc RX5 D cy) (hw : zH D cy ad L H0 H locs m) {a b : Nat} (hn : (1, a, b) ∈ L) (hdg : decode cc pc = .ok (.getfield 17, 3)) (kk : W p l e R s mi args below meth c H locs cells slots Q (F0 mi (pc + 3) ls (.ref (ad (3, a, 0)) :: rest))) : W p l e R s mi args below meth c H locs cells slots Q (F0 mi pc ls (.ref (ad (1, a, b)) :: rest)) := zget (n := (1, a, b)) C hw hn rfl rfl inlX5 1 (by decide) zF_X5_17 rfl rfl hdg kk
theorem zg_X5_25 {p : Program} {l : Launch} {e : Env} {R : Room} {s : State} {mi : MethodId} {args : Array Value} {below : List Frame} {meth : Method} {c : Code} {H H0 : Heap} {locs : List Loc} {cells slots : Nat} {Q : State → Prop} {cc : ByteArray} {pc : Nat} {ls : Array Slot} {rest : List Value} {D : va_G} {cy : Nat → ClassId} {ad : ZN → Nat} {L : List ZN} {m : ZM} (C : zX p s mi args c cc RX5 D cy) (hw : zH D cy ad L H0 H locs m) {a b : Nat} (hn : (1, a, b) ∈ L) (hdg : decode cc pc = .ok (.getfield 25, 3)) (kk : W p l e R s mi args below meth c H locs cells slots Q (F0 mi (pc + 3) ls (.ref (ad (8, a, 0)) :: rest))) : W p l e R s mi args below meth c H locs cells slots Q (F0 mi pc ls (.ref (ad (1, a, b)) :: rest)) := zget (n := (1, a, b)) C hw hn rfl rfl inlX5 2 (by decide) zF_X5_25 rfl rfl hdg kk
theorem zg_X5_31 {p : Program} {l : Launch} {e : Env} {R : Room} {s : State} {mi : MethodId} {args : Array Value} {below : List Frame} {meth : Method} {c : Code} {H H0 : Heap} {locs : List Loc} {cells slots : Nat} {Q : State → Prop} {cc : ByteArray} {pc : Nat} {ls : Array Slot} {rest : List Value} {D : va_G} {cy : Nat → ClassId} {ad : ZN → Nat} {L : List ZN} {m : ZM} (C : zX p s mi args c cc RX5 D cy) (hw : zH D cy ad L H0 H locs m) {a b : Nat} (hn : (1, a, b) ∈ L) (hdg : decode cc pc = .ok (.getfield 31, 3)) (kk : W p l e R s mi args below meth c H locs cells slots Q (F0 mi (pc + 3) ls (.ref (ad (11, a, 0)) :: rest))) : W p l e R s mi args below meth c H locs cells slots Q (F0 mi pc ls (.ref (ad (1, a, b)) :: rest)) := zget (n := (1, a, b)) C hw hn rfl rfl inlX5 3 (by decide) zF_X5_31 rfl rfl hdg kk
theorem zg_X5_36 {p : Program} {l : Launch} {e : Env} {R : Room} {s : State} {mi : MethodId} {args : Array Value} {below : List Frame} {meth : Method} {c : Code} {H H0 : Heap} {locs : List Loc} {cells slots : Nat} {Q : State → Prop} {cc : ByteArray} {pc : Nat} {ls : Array Slot} {rest : List Value} {D : va_G} {cy : Nat → ClassId} {ad : ZN → Nat} {L : List ZN} {m : ZM} (C : zX p s mi args c cc RX5 D cy) (hw : zH D cy ad L H0 H locs m) {a b : Nat} (hn : (1, a, b) ∈ L) (hdg : decode cc pc = .ok (.getfield 36, 3)) (kk : W p l e R s mi args below meth c H locs cells slots Q (F0 mi (pc + 3) ls (.ref (ad (7, a, 45)) :: rest))) : W p l e R s mi args below meth c H locs cells slots Q (F0 mi pc ls (.ref (ad (1, a, b)) :: rest)) := zget (n := (1, a, b)) C hw hn rfl rfl inlX5 4 (by decide) zF_X5_36 rfl rfl hdg kk
theorem zg_X5_40 {p : Program} {l : Launch} {e : Env} {R : Room} {s : State} {mi : MethodId} {args : Array Value} {below : List Frame} {meth : Method} {c : Code} {H H0 : Heap} {locs : List Loc} {cells slots : Nat} {Q : State → Prop} {cc : ByteArray} {pc : Nat} {ls : Array Slot} {rest : List Value} {D : va_G} {cy : Nat → ClassId} {ad : ZN → Nat} {L : List ZN} {m : ZM} (C : zX p s mi args c cc RX5 D cy) (hw : zH D cy ad L H0 H locs m) {a b : Nat} (hn : (1, a, b) ∈ L) (hdg : decode cc pc = .ok (.getfield 40, 3)) (kk : W p l e R s mi args below meth c H locs cells slots Q (F0 mi (pc + 3) ls (.ref (ad (7, a, 46)) :: rest))) : W p l e R s mi args below meth c H locs cells slots Q (F0 mi pc ls (.ref (ad (1, a, b)) :: rest)) := zget (n := (1, a, b)) C hw hn rfl rfl inlX5 5 (by decide) zF_X5_40 rfl rfl hdg kk
theorem zg_X5_43 {p : Program} {l : Launch} {e : Env} {R : Room} {s : State} {mi : MethodId} {args : Array Value} {below : List Frame} {meth : Method} {c : Code} {H H0 : Heap} {locs : List Loc} {cells slots : Nat} {Q : State → Prop} {cc : ByteArray} {pc : Nat} {ls : Array Slot} {rest : List Value} {D : va_G} {cy : Nat → ClassId} {ad : ZN → Nat} {L : List ZN} {m : ZM} (C : zX p s mi args c cc RX5 D cy) (hw : zH D cy ad L H0 H locs m) {a b : Nat} (hn : (1, a, b) ∈ L) (hdg : decode cc pc = .ok (.getfield 43, 3)) (kk : W p l e R s mi args below meth c H locs cells slots Q (F0 mi (pc + 3) ls (.int (m (1, a, b) 7) :: rest))) : W p l e R s mi args below meth c H locs cells slots Q (F0 mi pc ls (.ref (ad (1, a, b)) :: rest)) := zget (n := (1, a, b)) C hw hn rfl rfl inlX5 7 (by decide) zF_X5_43 rfl rfl hdg kk
theorem zg_X5_47 {p : Program} {l : Launch} {e : Env} {R : Room} {s : State} {mi : MethodId} {args : Array Value} {below : List Frame} {meth : Method} {c : Code} {H H0 : Heap} {locs : List Loc} {cells slots : Nat} {Q : State → Prop} {cc : ByteArray} {pc : Nat} {ls : Array Slot} {rest : List Value} {D : va_G} {cy : Nat → ClassId} {ad : ZN → Nat} {L : List ZN} {m : ZM} (C : zX p s mi args c cc RX5 D cy) (hw : zH D cy ad L H0 H locs m) {a b : Nat} (hn : (1, a, b) ∈ L) (hdg : decode cc pc = .ok (.getfield 47, 3)) (kk : W p l e R s mi args below meth c H locs cells slots Q (F0 mi (pc + 3) ls (.int (m (1, a, b) 8) :: rest))) : W p l e R s mi args below meth c H locs cells slots Q (F0 mi pc ls (.ref (ad (1, a, b)) :: rest)) := zget (n := (1, a, b)) C hw hn rfl rfl inlX5 8 (by decide) zF_X5_47 rfl rfl hdg kk
theorem zg_X5_50 {p : Program} {l : Launch} {e : Env} {R : Room} {s : State} {mi : MethodId} {args : Array Value} {below : List Frame} {meth : Method} {c : Code} {H H0 : Heap} {locs : List Loc} {cells slots : Nat} {Q : State → Prop} {cc : ByteArray} {pc : Nat} {ls : Array Slot} {rest : List Value} {D : va_G} {cy : Nat → ClassId} {ad : ZN → Nat} {L : List ZN} {m : ZM} (C : zX p s mi args c cc RX5 D cy) (hw : zH D cy ad L H0 H locs m) {a b : Nat} (hn : (1, a, b) ∈ L) (hdg : decode cc pc = .ok (.getfield 50, 3)) (kk : W p l e R s mi args below meth c H locs cells slots Q (F0 mi (pc + 3) ls (.int (m (1, a, b) 6) :: rest))) : W p l e R s mi args below meth c H locs cells slots Q (F0 mi pc ls (.ref (ad (1, a, b)) :: rest)) := zget (n := (1, a, b)) C hw hn rfl rfl inlX5 6 (by decide) zF_X5_50 rfl rfl hdg kk
theorem zg_X5_53 {p : Program} {l : Launch} {e : Env} {R : Room} {s : State} {mi : MethodId} {args : Array Value} {below : List Frame} {meth : Method} {c : Code} {H H0 : Heap} {locs : List Loc} {cells slots : Nat} {Q : State → Prop} {cc : ByteArray} {pc : Nat} {ls : Array Slot} {rest : List Value} {D : va_G} {cy : Nat → ClassId} {ad : ZN → Nat} {L : List ZN} {m : ZM} (C : zX p s mi args c cc RX5 D cy) (hw : zH D cy ad L H0 H locs m) {a b : Nat} (hn : (1, a, b) ∈ L) (hdg : decode cc pc = .ok (.getfield 53, 3)) (kk : W p l e R s mi args below meth c H locs cells slots Q (F0 mi (pc + 3) ls (.int (m (1, a, b) 9) :: rest))) : W p l e R s mi args below meth c H locs cells slots Q (F0 mi pc ls (.ref (ad (1, a, b)) :: rest)) := zget (n := (1, a, b)) C hw hn rfl rfl inlX5 9 (by decide) zF_X5_53 rfl rfl hdg kk
theorem zg_X5_56 {p : Program} {l : Launch} {e : Env} {R : Room} {s : State} {mi : MethodId} {args : Array Value} {below : List Frame} {meth : Method} {c : Code} {H H0 : Heap} {locs : List Loc} {cells slots : Nat} {Q : State → Prop} {cc : ByteArray} {pc : Nat} {ls : Array Slot} {rest : List Value} {D : va_G} {cy : Nat → ClassId} {ad : ZN → Nat} {L : List ZN} {m : ZM} (C : zX p s mi args c cc RX5 D cy) (hw : zH D cy ad L H0 H locs m) {a b : Nat} (hn : (8, a, b) ∈ L) (hdg : decode cc pc = .ok (.getfield 56, 3)) (kk : W p l e R s mi args below meth c H locs cells slots Q (F0 mi (pc + 3) ls (.int (m (8, a, b) 2) :: rest))) : W p l e R s mi args below meth c H locs cells slots Q (F0 mi pc ls (.ref (ad (8, a, b)) :: rest)) := zget (n := (8, a, b)) C hw hn rfl rfl inlX1 2 (by decide) zF_X5_56 rfl rfl hdg kk
theorem zg_X5_66 {p : Program} {l : Launch} {e : Env} {R : Room} {s : State} {mi : MethodId} {args : Array Value} {below : List Frame} {meth : Method} {c : Code} {H H0 : Heap} {locs : List Loc} {cells slots : Nat} {Q : State → Prop} {cc : ByteArray} {pc : Nat} {ls : Array Slot} {rest : List Value} {D : va_G} {cy : Nat → ClassId} {ad : ZN → Nat} {L : List ZN} {m : ZM} (C : zX p s mi args c cc RX5 D cy) (hw : zH D cy ad L H0 H locs m) {a b : Nat} (hn : (7, a, b) ∈ L) (hdg : decode cc pc = .ok (.getfield 66, 3)) (kk : W p l e R s mi args below meth c H locs cells slots Q (F0 mi (pc + 3) ls (.int (m (7, a, b) 0) :: rest))) : W p l e R s mi args below meth c H locs cells slots Q (F0 mi pc ls (.ref (ad (7, a, b)) :: rest)) := zget (n := (7, a, b)) C hw hn rfl rfl inlX3 0 (by decide) zF_X5_66 rfl rfl hdg kk
theorem zg_X5_69 {p : Program} {l : Launch} {e : Env} {R : Room} {s : State} {mi : MethodId} {args : Array Value} {below : List Frame} {meth : Method} {c : Code} {H H0 : Heap} {locs : List Loc} {cells slots : Nat} {Q : State → Prop} {cc : ByteArray} {pc : Nat} {ls : Array Slot} {rest : List Value} {D : va_G} {cy : Nat → ClassId} {ad : ZN → Nat} {L : List ZN} {m : ZM} (C : zX p s mi args c cc RX5 D cy) (hw : zH D cy ad L H0 H locs m) {a b : Nat} (hn : (7, a, b) ∈ L) (hdg : decode cc pc = .ok (.getfield 69, 3)) (kk : W p l e R s mi args below meth c H locs cells slots Q (F0 mi (pc + 3) ls (.int (m (7, a, b) 1) :: rest))) : W p l e R s mi args below meth c H locs cells slots Q (F0 mi pc ls (.ref (ad (7, a, b)) :: rest)) := zget (n := (7, a, b)) C hw hn rfl rfl inlX3 1 (by decide) zF_X5_69 rfl rfl hdg kk
theorem zg_X5_72 {p : Program} {l : Launch} {e : Env} {R : Room} {s : State} {mi : MethodId} {args : Array Value} {below : List Frame} {meth : Method} {c : Code} {H H0 : Heap} {locs : List Loc} {cells slots : Nat} {Q : State → Prop} {cc : ByteArray} {pc : Nat} {ls : Array Slot} {rest : List Value} {D : va_G} {cy : Nat → ClassId} {ad : ZN → Nat} {L : List ZN} {m : ZM} (C : zX p s mi args c cc RX5 D cy) (hw : zH D cy ad L H0 H locs m) {a b : Nat} (hn : (1, a, b) ∈ L) (hdg : decode cc pc = .ok (.getfield 72, 3)) (kk : W p l e R s mi args below meth c H locs cells slots Q (F0 mi (pc + 3) ls (.int (m (1, a, b) 10) :: rest))) : W p l e R s mi args below meth c H locs cells slots Q (F0 mi pc ls (.ref (ad (1, a, b)) :: rest)) := zget (n := (1, a, b)) C hw hn rfl rfl inlX5 10 (by decide) zF_X5_72 rfl rfl hdg kk
theorem zg_X5_75 {p : Program} {l : Launch} {e : Env} {R : Room} {s : State} {mi : MethodId} {args : Array Value} {below : List Frame} {meth : Method} {c : Code} {H H0 : Heap} {locs : List Loc} {cells slots : Nat} {Q : State → Prop} {cc : ByteArray} {pc : Nat} {ls : Array Slot} {rest : List Value} {D : va_G} {cy : Nat → ClassId} {ad : ZN → Nat} {L : List ZN} {m : ZM} (C : zX p s mi args c cc RX5 D cy) (hw : zH D cy ad L H0 H locs m) {a b : Nat} (hn : (1, a, b) ∈ L) (hdg : decode cc pc = .ok (.getfield 75, 3)) (kk : W p l e R s mi args below meth c H locs cells slots Q (F0 mi (pc + 3) ls (.int (m (1, a, b) 11) :: rest))) : W p l e R s mi args below meth c H locs cells slots Q (F0 mi pc ls (.ref (ad (1, a, b)) :: rest)) := zget (n := (1, a, b)) C hw hn rfl rfl inlX5 11 (by decide) zF_X5_75 rfl rfl hdg kk
theorem zg_X5_109 {p : Program} {l : Launch} {e : Env} {R : Room} {s : State} {mi : MethodId} {args : Array Value} {below : List Frame} {meth : Method} {c : Code} {H H0 : Heap} {locs : List Loc} {cells slots : Nat} {Q : State → Prop} {cc : ByteArray} {pc : Nat} {ls : Array Slot} {rest : List Value} {D : va_G} {cy : Nat → ClassId} {ad : ZN → Nat} {L : List ZN} {m : ZM} (C : zX p s mi args c cc RX5 D cy) (hw : zH D cy ad L H0 H locs m) {a b : Nat} (hn : (4, a, b) ∈ L) (hdg : decode cc pc = .ok (.getfield 109, 3)) (kk : W p l e R s mi args below meth c H locs cells slots Q (F0 mi (pc + 3) ls (.ref (ad (7, a, 3 * b)) :: rest))) : W p l e R s mi args below meth c H locs cells slots Q (F0 mi pc ls (.ref (ad (4, a, b)) :: rest)) := zget (n := (4, a, b)) C hw hn rfl rfl inlX0 1 (by decide) zF_X5_109 rfl rfl hdg kk
theorem zg_X5_112 {p : Program} {l : Launch} {e : Env} {R : Room} {s : State} {mi : MethodId} {args : Array Value} {below : List Frame} {meth : Method} {c : Code} {H H0 : Heap} {locs : List Loc} {cells slots : Nat} {Q : State → Prop} {cc : ByteArray} {pc : Nat} {ls : Array Slot} {rest : List Value} {D : va_G} {cy : Nat → ClassId} {ad : ZN → Nat} {L : List ZN} {m : ZM} (C : zX p s mi args c cc RX5 D cy) (hw : zH D cy ad L H0 H locs m) {a b : Nat} (hn : (4, a, b) ∈ L) (hdg : decode cc pc = .ok (.getfield 112, 3)) (kk : W p l e R s mi args below meth c H locs cells slots Q (F0 mi (pc + 3) ls (.int (m (4, a, b) 5) :: rest))) : W p l e R s mi args below meth c H locs cells slots Q (F0 mi pc ls (.ref (ad (4, a, b)) :: rest)) := zget (n := (4, a, b)) C hw hn rfl rfl inlX0 5 (by decide) zF_X5_112 rfl rfl hdg kk
theorem zg_X5_115 {p : Program} {l : Launch} {e : Env} {R : Room} {s : State} {mi : MethodId} {args : Array Value} {below : List Frame} {meth : Method} {c : Code} {H H0 : Heap} {locs : List Loc} {cells slots : Nat} {Q : State → Prop} {cc : ByteArray} {pc : Nat} {ls : Array Slot} {rest : List Value} {D : va_G} {cy : Nat → ClassId} {ad : ZN → Nat} {L : List ZN} {m : ZM} (C : zX p s mi args c cc RX5 D cy) (hw : zH D cy ad L H0 H locs m) {a b : Nat} (hn : (4, a, b) ∈ L) (hdg : decode cc pc = .ok (.getfield 115, 3)) (kk : W p l e R s mi args below meth c H locs cells slots Q (F0 mi (pc + 3) ls (.int (m (4, a, b) 7) :: rest))) : W p l e R s mi args below meth c H locs cells slots Q (F0 mi pc ls (.ref (ad (4, a, b)) :: rest)) := zget (n := (4, a, b)) C hw hn rfl rfl inlX0 7 (by decide) zF_X5_115 rfl rfl hdg kk
theorem zg_X5_129 {p : Program} {l : Launch} {e : Env} {R : Room} {s : State} {mi : MethodId} {args : Array Value} {below : List Frame} {meth : Method} {c : Code} {H H0 : Heap} {locs : List Loc} {cells slots : Nat} {Q : State → Prop} {cc : ByteArray} {pc : Nat} {ls : Array Slot} {rest : List Value} {D : va_G} {cy : Nat → ClassId} {ad : ZN → Nat} {L : List ZN} {m : ZM} (C : zX p s mi args c cc RX5 D cy) (hw : zH D cy ad L H0 H locs m) {a b : Nat} (hn : (4, a, b) ∈ L) (hdg : decode cc pc = .ok (.getfield 129, 3)) (kk : W p l e R s mi args below meth c H locs cells slots Q (F0 mi (pc + 3) ls (.int (m (4, a, b) 6) :: rest))) : W p l e R s mi args below meth c H locs cells slots Q (F0 mi pc ls (.ref (ad (4, a, b)) :: rest)) := zget (n := (4, a, b)) C hw hn rfl rfl inlX0 6 (by decide) zF_X5_129 rfl rfl hdg kk
theorem zg_X6_10 {p : Program} {l : Launch} {e : Env} {R : Room} {s : State} {mi : MethodId} {args : Array Value} {below : List Frame} {meth : Method} {c : Code} {H H0 : Heap} {locs : List Loc} {cells slots : Nat} {Q : State → Prop} {cc : ByteArray} {pc : Nat} {ls : Array Slot} {rest : List Value} {D : va_G} {cy : Nat → ClassId} {ad : ZN → Nat} {L : List ZN} {m : ZM} (C : zX p s mi args c cc RX6 D cy) (hw : zH D cy ad L H0 H locs m) {a b : Nat} (hn : (0, a, b) ∈ L) (hdg : decode cc pc = .ok (.getfield 10, 3)) (kk : W p l e R s mi args below meth c H locs cells slots Q (F0 mi (pc + 3) ls (.ref (ad (1, 0, 0)) :: rest))) : W p l e R s mi args below meth c H locs cells slots Q (F0 mi pc ls (.ref (ad (0, a, b)) :: rest)) := zget (n := (0, a, b)) C hw hn rfl rfl inlX6 0 (by decide) zF_X6_10 rfl rfl hdg kk
theorem zg_X6_16 {p : Program} {l : Launch} {e : Env} {R : Room} {s : State} {mi : MethodId} {args : Array Value} {below : List Frame} {meth : Method} {c : Code} {H H0 : Heap} {locs : List Loc} {cells slots : Nat} {Q : State → Prop} {cc : ByteArray} {pc : Nat} {ls : Array Slot} {rest : List Value} {D : va_G} {cy : Nat → ClassId} {ad : ZN → Nat} {L : List ZN} {m : ZM} (C : zX p s mi args c cc RX6 D cy) (hw : zH D cy ad L H0 H locs m) {a b : Nat} (hn : (0, a, b) ∈ L) (hdg : decode cc pc = .ok (.getfield 16, 3)) (kk : W p l e R s mi args below meth c H locs cells slots Q (F0 mi (pc + 3) ls (.ref (ad (1, 1, 0)) :: rest))) : W p l e R s mi args below meth c H locs cells slots Q (F0 mi pc ls (.ref (ad (0, a, b)) :: rest)) := zget (n := (0, a, b)) C hw hn rfl rfl inlX6 1 (by decide) zF_X6_16 rfl rfl hdg kk
theorem zg_X6_31 {p : Program} {l : Launch} {e : Env} {R : Room} {s : State} {mi : MethodId} {args : Array Value} {below : List Frame} {meth : Method} {c : Code} {H H0 : Heap} {locs : List Loc} {cells slots : Nat} {Q : State → Prop} {cc : ByteArray} {pc : Nat} {ls : Array Slot} {rest : List Value} {D : va_G} {cy : Nat → ClassId} {ad : ZN → Nat} {L : List ZN} {m : ZM} (C : zX p s mi args c cc RX6 D cy) (hw : zH D cy ad L H0 H locs m) {a b : Nat} (hn : (1, a, b) ∈ L) (hdg : decode cc pc = .ok (.getfield 31, 3)) (kk : W p l e R s mi args below meth c H locs cells slots Q (F0 mi (pc + 3) ls (.ref (ad (2, a, 24)) :: rest))) : W p l e R s mi args below meth c H locs cells slots Q (F0 mi pc ls (.ref (ad (1, a, b)) :: rest)) := zget (n := (1, a, b)) C hw hn rfl rfl inlX5 0 (by decide) zF_X6_31 rfl rfl hdg kk
theorem zg_X6_37 {p : Program} {l : Launch} {e : Env} {R : Room} {s : State} {mi : MethodId} {args : Array Value} {below : List Frame} {meth : Method} {c : Code} {H H0 : Heap} {locs : List Loc} {cells slots : Nat} {Q : State → Prop} {cc : ByteArray} {pc : Nat} {ls : Array Slot} {rest : List Value} {D : va_G} {cy : Nat → ClassId} {ad : ZN → Nat} {L : List ZN} {m : ZM} (C : zX p s mi args c cc RX6 D cy) (hw : zH D cy ad L H0 H locs m) {a b : Nat} (hn : (1, a, b) ∈ L) (hdg : decode cc pc = .ok (.getfield 37, 3)) (kk : W p l e R s mi args below meth c H locs cells slots Q (F0 mi (pc + 3) ls (.int (m (1, a, b) 8) :: rest))) : W p l e R s mi args below meth c H locs cells slots Q (F0 mi pc ls (.ref (ad (1, a, b)) :: rest)) := zget (n := (1, a, b)) C hw hn rfl rfl inlX5 8 (by decide) zF_X6_37 rfl rfl hdg kk
theorem zg_X6_41 {p : Program} {l : Launch} {e : Env} {R : Room} {s : State} {mi : MethodId} {args : Array Value} {below : List Frame} {meth : Method} {c : Code} {H H0 : Heap} {locs : List Loc} {cells slots : Nat} {Q : State → Prop} {cc : ByteArray} {pc : Nat} {ls : Array Slot} {rest : List Value} {D : va_G} {cy : Nat → ClassId} {ad : ZN → Nat} {L : List ZN} {m : ZM} (C : zX p s mi args c cc RX6 D cy) (hw : zH D cy ad L H0 H locs m) {a b : Nat} (hn : (1, a, b) ∈ L) (hdg : decode cc pc = .ok (.getfield 41, 3)) (kk : W p l e R s mi args below meth c H locs cells slots Q (F0 mi (pc + 3) ls (.int (m (1, a, b) 9) :: rest))) : W p l e R s mi args below meth c H locs cells slots Q (F0 mi pc ls (.ref (ad (1, a, b)) :: rest)) := zget (n := (1, a, b)) C hw hn rfl rfl inlX5 9 (by decide) zF_X6_41 rfl rfl hdg kk
theorem zg_X6_57 {p : Program} {l : Launch} {e : Env} {R : Room} {s : State} {mi : MethodId} {args : Array Value} {below : List Frame} {meth : Method} {c : Code} {H H0 : Heap} {locs : List Loc} {cells slots : Nat} {Q : State → Prop} {cc : ByteArray} {pc : Nat} {ls : Array Slot} {rest : List Value} {D : va_G} {cy : Nat → ClassId} {ad : ZN → Nat} {L : List ZN} {m : ZM} (C : zX p s mi args c cc RX6 D cy) (hw : zH D cy ad L H0 H locs m) {a b : Nat} (hn : (4, a, b) ∈ L) (hdg : decode cc pc = .ok (.getfield 57, 3)) (kk : W p l e R s mi args below meth c H locs cells slots Q (F0 mi (pc + 3) ls (.int (m (4, a, b) 4) :: rest))) : W p l e R s mi args below meth c H locs cells slots Q (F0 mi pc ls (.ref (ad (4, a, b)) :: rest)) := zget (n := (4, a, b)) C hw hn rfl rfl inlX0 4 (by decide) zF_X6_57 rfl rfl hdg kk
theorem zg_X6_70 {p : Program} {l : Launch} {e : Env} {R : Room} {s : State} {mi : MethodId} {args : Array Value} {below : List Frame} {meth : Method} {c : Code} {H H0 : Heap} {locs : List Loc} {cells slots : Nat} {Q : State → Prop} {cc : ByteArray} {pc : Nat} {ls : Array Slot} {rest : List Value} {D : va_G} {cy : Nat → ClassId} {ad : ZN → Nat} {L : List ZN} {m : ZM} (C : zX p s mi args c cc RX6 D cy) (hw : zH D cy ad L H0 H locs m) {a b : Nat} (hn : (4, a, b) ∈ L) (hdg : decode cc pc = .ok (.getfield 70, 3)) (kk : W p l e R s mi args below meth c H locs cells slots Q (F0 mi (pc + 3) ls (.ref (ad (5, a, b)) :: rest))) : W p l e R s mi args below meth c H locs cells slots Q (F0 mi pc ls (.ref (ad (4, a, b)) :: rest)) := zget (n := (4, a, b)) C hw hn rfl rfl inlX0 0 (by decide) zF_X6_70 rfl rfl hdg kk
theorem zg_X6_74 {p : Program} {l : Launch} {e : Env} {R : Room} {s : State} {mi : MethodId} {args : Array Value} {below : List Frame} {meth : Method} {c : Code} {H H0 : Heap} {locs : List Loc} {cells slots : Nat} {Q : State → Prop} {cc : ByteArray} {pc : Nat} {ls : Array Slot} {rest : List Value} {D : va_G} {cy : Nat → ClassId} {ad : ZN → Nat} {L : List ZN} {m : ZM} (C : zX p s mi args c cc RX6 D cy) (hw : zH D cy ad L H0 H locs m) {a b : Nat} (hn : (6, a, b) ∈ L) (hdg : decode cc pc = .ok (.getfield 74, 3)) (kk : W p l e R s mi args below meth c H locs cells slots Q (F0 mi (pc + 3) ls (.int (m (6, a, b) 2) :: rest))) : W p l e R s mi args below meth c H locs cells slots Q (F0 mi pc ls (.ref (ad (6, a, b)) :: rest)) := zget (n := (6, a, b)) C hw hn rfl rfl inlX4 2 (by decide) zF_X6_74 rfl rfl hdg kk
theorem zg_X6_83 {p : Program} {l : Launch} {e : Env} {R : Room} {s : State} {mi : MethodId} {args : Array Value} {below : List Frame} {meth : Method} {c : Code} {H H0 : Heap} {locs : List Loc} {cells slots : Nat} {Q : State → Prop} {cc : ByteArray} {pc : Nat} {ls : Array Slot} {rest : List Value} {D : va_G} {cy : Nat → ClassId} {ad : ZN → Nat} {L : List ZN} {m : ZM} (C : zX p s mi args c cc RX6 D cy) (hw : zH D cy ad L H0 H locs m) {a b : Nat} (hn : (4, a, b) ∈ L) (hdg : decode cc pc = .ok (.getfield 83, 3)) (kk : W p l e R s mi args below meth c H locs cells slots Q (F0 mi (pc + 3) ls (.int (m (4, a, b) 5) :: rest))) : W p l e R s mi args below meth c H locs cells slots Q (F0 mi pc ls (.ref (ad (4, a, b)) :: rest)) := zget (n := (4, a, b)) C hw hn rfl rfl inlX0 5 (by decide) zF_X6_83 rfl rfl hdg kk
theorem zg_X6_104 {p : Program} {l : Launch} {e : Env} {R : Room} {s : State} {mi : MethodId} {args : Array Value} {below : List Frame} {meth : Method} {c : Code} {H H0 : Heap} {locs : List Loc} {cells slots : Nat} {Q : State → Prop} {cc : ByteArray} {pc : Nat} {ls : Array Slot} {rest : List Value} {D : va_G} {cy : Nat → ClassId} {ad : ZN → Nat} {L : List ZN} {m : ZM} (C : zX p s mi args c cc RX6 D cy) (hw : zH D cy ad L H0 H locs m) {a b : Nat} (hn : (1, a, b) ∈ L) (hdg : decode cc pc = .ok (.getfield 104, 3)) (kk : W p l e R s mi args below meth c H locs cells slots Q (F0 mi (pc + 3) ls (.ref (ad (8, a, 0)) :: rest))) : W p l e R s mi args below meth c H locs cells slots Q (F0 mi pc ls (.ref (ad (1, a, b)) :: rest)) := zget (n := (1, a, b)) C hw hn rfl rfl inlX5 2 (by decide) zF_X6_104 rfl rfl hdg kk
theorem zg_X6_114 {p : Program} {l : Launch} {e : Env} {R : Room} {s : State} {mi : MethodId} {args : Array Value} {below : List Frame} {meth : Method} {c : Code} {H H0 : Heap} {locs : List Loc} {cells slots : Nat} {Q : State → Prop} {cc : ByteArray} {pc : Nat} {ls : Array Slot} {rest : List Value} {D : va_G} {cy : Nat → ClassId} {ad : ZN → Nat} {L : List ZN} {m : ZM} (C : zX p s mi args c cc RX6 D cy) (hw : zH D cy ad L H0 H locs m) {a b : Nat} (hn : (8, a, b) ∈ L) (hdg : decode cc pc = .ok (.getfield 114, 3)) (kk : W p l e R s mi args below meth c H locs cells slots Q (F0 mi (pc + 3) ls (.int (m (8, a, b) 2) :: rest))) : W p l e R s mi args below meth c H locs cells slots Q (F0 mi pc ls (.ref (ad (8, a, b)) :: rest)) := zget (n := (8, a, b)) C hw hn rfl rfl inlX1 2 (by decide) zF_X6_114 rfl rfl hdg kk
theorem zg_X6_168 {p : Program} {l : Launch} {e : Env} {R : Room} {s : State} {mi : MethodId} {args : Array Value} {below : List Frame} {meth : Method} {c : Code} {H H0 : Heap} {locs : List Loc} {cells slots : Nat} {Q : State → Prop} {cc : ByteArray} {pc : Nat} {ls : Array Slot} {rest : List Value} {D : va_G} {cy : Nat → ClassId} {ad : ZN → Nat} {L : List ZN} {m : ZM} (C : zX p s mi args c cc RX6 D cy) (hw : zH D cy ad L H0 H locs m) {a b : Nat} (hn : (1, a, b) ∈ L) (hdg : decode cc pc = .ok (.getfield 168, 3)) (kk : W p l e R s mi args below meth c H locs cells slots Q (F0 mi (pc + 3) ls (.ref (ad (7, a, 45)) :: rest))) : W p l e R s mi args below meth c H locs cells slots Q (F0 mi pc ls (.ref (ad (1, a, b)) :: rest)) := zget (n := (1, a, b)) C hw hn rfl rfl inlX5 4 (by decide) zF_X6_168 rfl rfl hdg kk
theorem zg_X6_188 {p : Program} {l : Launch} {e : Env} {R : Room} {s : State} {mi : MethodId} {args : Array Value} {below : List Frame} {meth : Method} {c : Code} {H H0 : Heap} {locs : List Loc} {cells slots : Nat} {Q : State → Prop} {cc : ByteArray} {pc : Nat} {ls : Array Slot} {rest : List Value} {D : va_G} {cy : Nat → ClassId} {ad : ZN → Nat} {L : List ZN} {m : ZM} (C : zX p s mi args c cc RX6 D cy) (hw : zH D cy ad L H0 H locs m) {a b : Nat} (hn : (1, a, b) ∈ L) (hdg : decode cc pc = .ok (.getfield 188, 3)) (kk : W p l e R s mi args below meth c H locs cells slots Q (F0 mi (pc + 3) ls (.int (m (1, a, b) 7) :: rest))) : W p l e R s mi args below meth c H locs cells slots Q (F0 mi pc ls (.ref (ad (1, a, b)) :: rest)) := zget (n := (1, a, b)) C hw hn rfl rfl inlX5 7 (by decide) zF_X6_188 rfl rfl hdg kk
theorem zg_X6_194 {p : Program} {l : Launch} {e : Env} {R : Room} {s : State} {mi : MethodId} {args : Array Value} {below : List Frame} {meth : Method} {c : Code} {H H0 : Heap} {locs : List Loc} {cells slots : Nat} {Q : State → Prop} {cc : ByteArray} {pc : Nat} {ls : Array Slot} {rest : List Value} {D : va_G} {cy : Nat → ClassId} {ad : ZN → Nat} {L : List ZN} {m : ZM} (C : zX p s mi args c cc RX6 D cy) (hw : zH D cy ad L H0 H locs m) {a b : Nat} (hn : (1, a, b) ∈ L) (hdg : decode cc pc = .ok (.getfield 194, 3)) (kk : W p l e R s mi args below meth c H locs cells slots Q (F0 mi (pc + 3) ls (.int (m (1, a, b) 10) :: rest))) : W p l e R s mi args below meth c H locs cells slots Q (F0 mi pc ls (.ref (ad (1, a, b)) :: rest)) := zget (n := (1, a, b)) C hw hn rfl rfl inlX5 10 (by decide) zF_X6_194 rfl rfl hdg kk
theorem zg_X6_202 {p : Program} {l : Launch} {e : Env} {R : Room} {s : State} {mi : MethodId} {args : Array Value} {below : List Frame} {meth : Method} {c : Code} {H H0 : Heap} {locs : List Loc} {cells slots : Nat} {Q : State → Prop} {cc : ByteArray} {pc : Nat} {ls : Array Slot} {rest : List Value} {D : va_G} {cy : Nat → ClassId} {ad : ZN → Nat} {L : List ZN} {m : ZM} (C : zX p s mi args c cc RX6 D cy) (hw : zH D cy ad L H0 H locs m) {a b : Nat} (hn : (7, a, b) ∈ L) (hdg : decode cc pc = .ok (.getfield 202, 3)) (kk : W p l e R s mi args below meth c H locs cells slots Q (F0 mi (pc + 3) ls (.int (m (7, a, b) 1) :: rest))) : W p l e R s mi args below meth c H locs cells slots Q (F0 mi pc ls (.ref (ad (7, a, b)) :: rest)) := zget (n := (7, a, b)) C hw hn rfl rfl inlX3 1 (by decide) zF_X6_202 rfl rfl hdg kk
theorem zg_X6_209 {p : Program} {l : Launch} {e : Env} {R : Room} {s : State} {mi : MethodId} {args : Array Value} {below : List Frame} {meth : Method} {c : Code} {H H0 : Heap} {locs : List Loc} {cells slots : Nat} {Q : State → Prop} {cc : ByteArray} {pc : Nat} {ls : Array Slot} {rest : List Value} {D : va_G} {cy : Nat → ClassId} {ad : ZN → Nat} {L : List ZN} {m : ZM} (C : zX p s mi args c cc RX6 D cy) (hw : zH D cy ad L H0 H locs m) {a b : Nat} (hn : (7, a, b) ∈ L) (hdg : decode cc pc = .ok (.getfield 209, 3)) (kk : W p l e R s mi args below meth c H locs cells slots Q (F0 mi (pc + 3) ls (.int (m (7, a, b) 0) :: rest))) : W p l e R s mi args below meth c H locs cells slots Q (F0 mi pc ls (.ref (ad (7, a, b)) :: rest)) := zget (n := (7, a, b)) C hw hn rfl rfl inlX3 0 (by decide) zF_X6_209 rfl rfl hdg kk
theorem zg_X6_218 {p : Program} {l : Launch} {e : Env} {R : Room} {s : State} {mi : MethodId} {args : Array Value} {below : List Frame} {meth : Method} {c : Code} {H H0 : Heap} {locs : List Loc} {cells slots : Nat} {Q : State → Prop} {cc : ByteArray} {pc : Nat} {ls : Array Slot} {rest : List Value} {D : va_G} {cy : Nat → ClassId} {ad : ZN → Nat} {L : List ZN} {m : ZM} (C : zX p s mi args c cc RX6 D cy) (hw : zH D cy ad L H0 H locs m) {a b : Nat} (hn : (1, a, b) ∈ L) (hdg : decode cc pc = .ok (.getfield 218, 3)) (kk : W p l e R s mi args below meth c H locs cells slots Q (F0 mi (pc + 3) ls (.int (m (1, a, b) 11) :: rest))) : W p l e R s mi args below meth c H locs cells slots Q (F0 mi pc ls (.ref (ad (1, a, b)) :: rest)) := zget (n := (1, a, b)) C hw hn rfl rfl inlX5 11 (by decide) zF_X6_218 rfl rfl hdg kk
theorem zg_X6_221 {p : Program} {l : Launch} {e : Env} {R : Room} {s : State} {mi : MethodId} {args : Array Value} {below : List Frame} {meth : Method} {c : Code} {H H0 : Heap} {locs : List Loc} {cells slots : Nat} {Q : State → Prop} {cc : ByteArray} {pc : Nat} {ls : Array Slot} {rest : List Value} {D : va_G} {cy : Nat → ClassId} {ad : ZN → Nat} {L : List ZN} {m : ZM} (C : zX p s mi args c cc RX6 D cy) (hw : zH D cy ad L H0 H locs m) {a b : Nat} (hn : (1, a, b) ∈ L) (hdg : decode cc pc = .ok (.getfield 221, 3)) (kk : W p l e R s mi args below meth c H locs cells slots Q (F0 mi (pc + 3) ls (.ref (ad (7, a, 46)) :: rest))) : W p l e R s mi args below meth c H locs cells slots Q (F0 mi pc ls (.ref (ad (1, a, b)) :: rest)) := zget (n := (1, a, b)) C hw hn rfl rfl inlX5 5 (by decide) zF_X6_221 rfl rfl hdg kk
theorem zg_X6_230 {p : Program} {l : Launch} {e : Env} {R : Room} {s : State} {mi : MethodId} {args : Array Value} {below : List Frame} {meth : Method} {c : Code} {H H0 : Heap} {locs : List Loc} {cells slots : Nat} {Q : State → Prop} {cc : ByteArray} {pc : Nat} {ls : Array Slot} {rest : List Value} {D : va_G} {cy : Nat → ClassId} {ad : ZN → Nat} {L : List ZN} {m : ZM} (C : zX p s mi args c cc RX6 D cy) (hw : zH D cy ad L H0 H locs m) {a b : Nat} (hn : (1, a, b) ∈ L) (hdg : decode cc pc = .ok (.getfield 230, 3)) (kk : W p l e R s mi args below meth c H locs cells slots Q (F0 mi (pc + 3) ls (.ref (ad (3, a, 0)) :: rest))) : W p l e R s mi args below meth c H locs cells slots Q (F0 mi pc ls (.ref (ad (1, a, b)) :: rest)) := zget (n := (1, a, b)) C hw hn rfl rfl inlX5 1 (by decide) zF_X6_230 rfl rfl hdg kk
theorem zg_X6_242 {p : Program} {l : Launch} {e : Env} {R : Room} {s : State} {mi : MethodId} {args : Array Value} {below : List Frame} {meth : Method} {c : Code} {H H0 : Heap} {locs : List Loc} {cells slots : Nat} {Q : State → Prop} {cc : ByteArray} {pc : Nat} {ls : Array Slot} {rest : List Value} {D : va_G} {cy : Nat → ClassId} {ad : ZN → Nat} {L : List ZN} {m : ZM} (C : zX p s mi args c cc RX6 D cy) (hw : zH D cy ad L H0 H locs m) {a b : Nat} (hn : (1, a, b) ∈ L) (hdg : decode cc pc = .ok (.getfield 242, 3)) (kk : W p l e R s mi args below meth c H locs cells slots Q (F0 mi (pc + 3) ls (.ref (ad (11, a, 0)) :: rest))) : W p l e R s mi args below meth c H locs cells slots Q (F0 mi pc ls (.ref (ad (1, a, b)) :: rest)) := zget (n := (1, a, b)) C hw hn rfl rfl inlX5 3 (by decide) zF_X6_242 rfl rfl hdg kk
theorem zg_X6_256 {p : Program} {l : Launch} {e : Env} {R : Room} {s : State} {mi : MethodId} {args : Array Value} {below : List Frame} {meth : Method} {c : Code} {H H0 : Heap} {locs : List Loc} {cells slots : Nat} {Q : State → Prop} {cc : ByteArray} {pc : Nat} {ls : Array Slot} {rest : List Value} {D : va_G} {cy : Nat → ClassId} {ad : ZN → Nat} {L : List ZN} {m : ZM} (C : zX p s mi args c cc RX6 D cy) (hw : zH D cy ad L H0 H locs m) {a b : Nat} (hn : (1, a, b) ∈ L) (hdg : decode cc pc = .ok (.getfield 256, 3)) (kk : W p l e R s mi args below meth c H locs cells slots Q (F0 mi (pc + 3) ls (.int (m (1, a, b) 6) :: rest))) : W p l e R s mi args below meth c H locs cells slots Q (F0 mi pc ls (.ref (ad (1, a, b)) :: rest)) := zget (n := (1, a, b)) C hw hn rfl rfl inlX5 6 (by decide) zF_X6_256 rfl rfl hdg kk
theorem zg_X6_263 {p : Program} {l : Launch} {e : Env} {R : Room} {s : State} {mi : MethodId} {args : Array Value} {below : List Frame} {meth : Method} {c : Code} {H H0 : Heap} {locs : List Loc} {cells slots : Nat} {Q : State → Prop} {cc : ByteArray} {pc : Nat} {ls : Array Slot} {rest : List Value} {D : va_G} {cy : Nat → ClassId} {ad : ZN → Nat} {L : List ZN} {m : ZM} (C : zX p s mi args c cc RX6 D cy) (hw : zH D cy ad L H0 H locs m) {a b : Nat} (hn : (6, a, b) ∈ L) (hdg : decode cc pc = .ok (.getfield 263, 3)) (kk : W p l e R s mi args below meth c H locs cells slots Q (F0 mi (pc + 3) ls (.int (m (6, a, b) 0) :: rest))) : W p l e R s mi args below meth c H locs cells slots Q (F0 mi pc ls (.ref (ad (6, a, b)) :: rest)) := zget (n := (6, a, b)) C hw hn rfl rfl inlX4 0 (by decide) zF_X6_263 rfl rfl hdg kk
theorem zg_X6_266 {p : Program} {l : Launch} {e : Env} {R : Room} {s : State} {mi : MethodId} {args : Array Value} {below : List Frame} {meth : Method} {c : Code} {H H0 : Heap} {locs : List Loc} {cells slots : Nat} {Q : State → Prop} {cc : ByteArray} {pc : Nat} {ls : Array Slot} {rest : List Value} {D : va_G} {cy : Nat → ClassId} {ad : ZN → Nat} {L : List ZN} {m : ZM} (C : zX p s mi args c cc RX6 D cy) (hw : zH D cy ad L H0 H locs m) {a b : Nat} (hn : (6, a, b) ∈ L) (hdg : decode cc pc = .ok (.getfield 266, 3)) (kk : W p l e R s mi args below meth c H locs cells slots Q (F0 mi (pc + 3) ls (.int (m (6, a, b) 1) :: rest))) : W p l e R s mi args below meth c H locs cells slots Q (F0 mi pc ls (.ref (ad (6, a, b)) :: rest)) := zget (n := (6, a, b)) C hw hn rfl rfl inlX4 1 (by decide) zF_X6_266 rfl rfl hdg kk
theorem zg_X7_9 {p : Program} {l : Launch} {e : Env} {R : Room} {s : State} {mi : MethodId} {args : Array Value} {below : List Frame} {meth : Method} {c : Code} {H H0 : Heap} {locs : List Loc} {cells slots : Nat} {Q : State → Prop} {cc : ByteArray} {pc : Nat} {ls : Array Slot} {rest : List Value} {D : va_G} {cy : Nat → ClassId} {ad : ZN → Nat} {L : List ZN} {m : ZM} (C : zX p s mi args c cc RX7 D cy) (hw : zH D cy ad L H0 H locs m) {a b : Nat} (hn : (13, a, b) ∈ L) (hdg : decode cc pc = .ok (.getfield 9, 3)) (kk : W p l e R s mi args below meth c H locs cells slots Q (F0 mi (pc + 3) ls (.int (m (13, a, b) 1) :: rest))) : W p l e R s mi args below meth c H locs cells slots Q (F0 mi pc ls (.ref (ad (13, a, b)) :: rest)) := zget (n := (13, a, b)) C hw hn rfl rfl inlX7 1 (by decide) zF_X7_9 rfl rfl hdg kk
theorem zg_X7_15 {p : Program} {l : Launch} {e : Env} {R : Room} {s : State} {mi : MethodId} {args : Array Value} {below : List Frame} {meth : Method} {c : Code} {H H0 : Heap} {locs : List Loc} {cells slots : Nat} {Q : State → Prop} {cc : ByteArray} {pc : Nat} {ls : Array Slot} {rest : List Value} {D : va_G} {cy : Nat → ClassId} {ad : ZN → Nat} {L : List ZN} {m : ZM} (C : zX p s mi args c cc RX7 D cy) (hw : zH D cy ad L H0 H locs m) {a b : Nat} (hn : (13, a, b) ∈ L) (hdg : decode cc pc = .ok (.getfield 15, 3)) (kk : W p l e R s mi args below meth c H locs cells slots Q (F0 mi (pc + 3) ls (.int (m (13, a, b) 2) :: rest))) : W p l e R s mi args below meth c H locs cells slots Q (F0 mi pc ls (.ref (ad (13, a, b)) :: rest)) := zget (n := (13, a, b)) C hw hn rfl rfl inlX7 2 (by decide) zF_X7_15 rfl rfl hdg kk
theorem zg_X7_18 {p : Program} {l : Launch} {e : Env} {R : Room} {s : State} {mi : MethodId} {args : Array Value} {below : List Frame} {meth : Method} {c : Code} {H H0 : Heap} {locs : List Loc} {cells slots : Nat} {Q : State → Prop} {cc : ByteArray} {pc : Nat} {ls : Array Slot} {rest : List Value} {D : va_G} {cy : Nat → ClassId} {ad : ZN → Nat} {L : List ZN} {m : ZM} (C : zX p s mi args c cc RX7 D cy) (hw : zH D cy ad L H0 H locs m) {a b : Nat} (hn : (13, a, b) ∈ L) (hdg : decode cc pc = .ok (.getfield 18, 3)) (kk : W p l e R s mi args below meth c H locs cells slots Q (F0 mi (pc + 3) ls (.ref (ad (2, 10 + 20 * a, 24)) :: rest))) : W p l e R s mi args below meth c H locs cells slots Q (F0 mi pc ls (.ref (ad (13, a, b)) :: rest)) := zget (n := (13, a, b)) C hw hn rfl rfl inlX7 3 (by decide) zF_X7_18 rfl rfl hdg kk
theorem zg_X7_22 {p : Program} {l : Launch} {e : Env} {R : Room} {s : State} {mi : MethodId} {args : Array Value} {below : List Frame} {meth : Method} {c : Code} {H H0 : Heap} {locs : List Loc} {cells slots : Nat} {Q : State → Prop} {cc : ByteArray} {pc : Nat} {ls : Array Slot} {rest : List Value} {D : va_G} {cy : Nat → ClassId} {ad : ZN → Nat} {L : List ZN} {m : ZM} (C : zX p s mi args c cc RX7 D cy) (hw : zH D cy ad L H0 H locs m) {a b : Nat} (hn : (13, a, b) ∈ L) (hdg : decode cc pc = .ok (.getfield 22, 3)) (kk : W p l e R s mi args below meth c H locs cells slots Q (F0 mi (pc + 3) ls (.ref (ad (2, 11 + 20 * a, 4)) :: rest))) : W p l e R s mi args below meth c H locs cells slots Q (F0 mi pc ls (.ref (ad (13, a, b)) :: rest)) := zget (n := (13, a, b)) C hw hn rfl rfl inlX7 5 (by decide) zF_X7_22 rfl rfl hdg kk
theorem zg_X7_25 {p : Program} {l : Launch} {e : Env} {R : Room} {s : State} {mi : MethodId} {args : Array Value} {below : List Frame} {meth : Method} {c : Code} {H H0 : Heap} {locs : List Loc} {cells slots : Nat} {Q : State → Prop} {cc : ByteArray} {pc : Nat} {ls : Array Slot} {rest : List Value} {D : va_G} {cy : Nat → ClassId} {ad : ZN → Nat} {L : List ZN} {m : ZM} (C : zX p s mi args c cc RX7 D cy) (hw : zH D cy ad L H0 H locs m) {a b : Nat} (hn : (13, a, b) ∈ L) (hdg : decode cc pc = .ok (.getfield 25, 3)) (kk : W p l e R s mi args below meth c H locs cells slots Q (F0 mi (pc + 3) ls (.ref (ad (2, 12 + 20 * a, 16)) :: rest))) : W p l e R s mi args below meth c H locs cells slots Q (F0 mi pc ls (.ref (ad (13, a, b)) :: rest)) := zget (n := (13, a, b)) C hw hn rfl rfl inlX7 6 (by decide) zF_X7_25 rfl rfl hdg kk
theorem zg_X7_28 {p : Program} {l : Launch} {e : Env} {R : Room} {s : State} {mi : MethodId} {args : Array Value} {below : List Frame} {meth : Method} {c : Code} {H H0 : Heap} {locs : List Loc} {cells slots : Nat} {Q : State → Prop} {cc : ByteArray} {pc : Nat} {ls : Array Slot} {rest : List Value} {D : va_G} {cy : Nat → ClassId} {ad : ZN → Nat} {L : List ZN} {m : ZM} (C : zX p s mi args c cc RX7 D cy) (hw : zH D cy ad L H0 H locs m) {a b : Nat} (hn : (13, a, b) ∈ L) (hdg : decode cc pc = .ok (.getfield 28, 3)) (kk : W p l e R s mi args below meth c H locs cells slots Q (F0 mi (pc + 3) ls (.ref (ad (2, 13 + 20 * a, 16)) :: rest))) : W p l e R s mi args below meth c H locs cells slots Q (F0 mi pc ls (.ref (ad (13, a, b)) :: rest)) := zget (n := (13, a, b)) C hw hn rfl rfl inlX7 7 (by decide) zF_X7_28 rfl rfl hdg kk
theorem zg_X7_31 {p : Program} {l : Launch} {e : Env} {R : Room} {s : State} {mi : MethodId} {args : Array Value} {below : List Frame} {meth : Method} {c : Code} {H H0 : Heap} {locs : List Loc} {cells slots : Nat} {Q : State → Prop} {cc : ByteArray} {pc : Nat} {ls : Array Slot} {rest : List Value} {D : va_G} {cy : Nat → ClassId} {ad : ZN → Nat} {L : List ZN} {m : ZM} (C : zX p s mi args c cc RX7 D cy) (hw : zH D cy ad L H0 H locs m) {a b : Nat} (hn : (13, a, b) ∈ L) (hdg : decode cc pc = .ok (.getfield 31, 3)) (kk : W p l e R s mi args below meth c H locs cells slots Q (F0 mi (pc + 3) ls (.ref (ad (2, 14 + 20 * a, 16)) :: rest))) : W p l e R s mi args below meth c H locs cells slots Q (F0 mi pc ls (.ref (ad (13, a, b)) :: rest)) := zget (n := (13, a, b)) C hw hn rfl rfl inlX7 8 (by decide) zF_X7_31 rfl rfl hdg kk
theorem zg_X7_34 {p : Program} {l : Launch} {e : Env} {R : Room} {s : State} {mi : MethodId} {args : Array Value} {below : List Frame} {meth : Method} {c : Code} {H H0 : Heap} {locs : List Loc} {cells slots : Nat} {Q : State → Prop} {cc : ByteArray} {pc : Nat} {ls : Array Slot} {rest : List Value} {D : va_G} {cy : Nat → ClassId} {ad : ZN → Nat} {L : List ZN} {m : ZM} (C : zX p s mi args c cc RX7 D cy) (hw : zH D cy ad L H0 H locs m) {a b : Nat} (hn : (13, a, b) ∈ L) (hdg : decode cc pc = .ok (.getfield 34, 3)) (kk : W p l e R s mi args below meth c H locs cells slots Q (F0 mi (pc + 3) ls (.ref (ad (2, 15 + 20 * a, 4)) :: rest))) : W p l e R s mi args below meth c H locs cells slots Q (F0 mi pc ls (.ref (ad (13, a, b)) :: rest)) := zget (n := (13, a, b)) C hw hn rfl rfl inlX7 9 (by decide) zF_X7_34 rfl rfl hdg kk
theorem zg_X7_37 {p : Program} {l : Launch} {e : Env} {R : Room} {s : State} {mi : MethodId} {args : Array Value} {below : List Frame} {meth : Method} {c : Code} {H H0 : Heap} {locs : List Loc} {cells slots : Nat} {Q : State → Prop} {cc : ByteArray} {pc : Nat} {ls : Array Slot} {rest : List Value} {D : va_G} {cy : Nat → ClassId} {ad : ZN → Nat} {L : List ZN} {m : ZM} (C : zX p s mi args c cc RX7 D cy) (hw : zH D cy ad L H0 H locs m) {a b : Nat} (hn : (13, a, b) ∈ L) (hdg : decode cc pc = .ok (.getfield 37, 3)) (kk : W p l e R s mi args below meth c H locs cells slots Q (F0 mi (pc + 3) ls (.ref (ad (2, 16 + 20 * a, 4)) :: rest))) : W p l e R s mi args below meth c H locs cells slots Q (F0 mi pc ls (.ref (ad (13, a, b)) :: rest)) := zget (n := (13, a, b)) C hw hn rfl rfl inlX7 10 (by decide) zF_X7_37 rfl rfl hdg kk
theorem zg_X7_40 {p : Program} {l : Launch} {e : Env} {R : Room} {s : State} {mi : MethodId} {args : Array Value} {below : List Frame} {meth : Method} {c : Code} {H H0 : Heap} {locs : List Loc} {cells slots : Nat} {Q : State → Prop} {cc : ByteArray} {pc : Nat} {ls : Array Slot} {rest : List Value} {D : va_G} {cy : Nat → ClassId} {ad : ZN → Nat} {L : List ZN} {m : ZM} (C : zX p s mi args c cc RX7 D cy) (hw : zH D cy ad L H0 H locs m) {a b : Nat} (hn : (13, a, b) ∈ L) (hdg : decode cc pc = .ok (.getfield 40, 3)) (kk : W p l e R s mi args below meth c H locs cells slots Q (F0 mi (pc + 3) ls (.ref (ad (2, 17 + 20 * a, 4)) :: rest))) : W p l e R s mi args below meth c H locs cells slots Q (F0 mi pc ls (.ref (ad (13, a, b)) :: rest)) := zget (n := (13, a, b)) C hw hn rfl rfl inlX7 11 (by decide) zF_X7_40 rfl rfl hdg kk
theorem zg_X7_43 {p : Program} {l : Launch} {e : Env} {R : Room} {s : State} {mi : MethodId} {args : Array Value} {below : List Frame} {meth : Method} {c : Code} {H H0 : Heap} {locs : List Loc} {cells slots : Nat} {Q : State → Prop} {cc : ByteArray} {pc : Nat} {ls : Array Slot} {rest : List Value} {D : va_G} {cy : Nat → ClassId} {ad : ZN → Nat} {L : List ZN} {m : ZM} (C : zX p s mi args c cc RX7 D cy) (hw : zH D cy ad L H0 H locs m) {a b : Nat} (hn : (13, a, b) ∈ L) (hdg : decode cc pc = .ok (.getfield 43, 3)) (kk : W p l e R s mi args below meth c H locs cells slots Q (F0 mi (pc + 3) ls (.ref (ad (2, 18 + 20 * a, 4)) :: rest))) : W p l e R s mi args below meth c H locs cells slots Q (F0 mi pc ls (.ref (ad (13, a, b)) :: rest)) := zget (n := (13, a, b)) C hw hn rfl rfl inlX7 12 (by decide) zF_X7_43 rfl rfl hdg kk
theorem zg_X7_46 {p : Program} {l : Launch} {e : Env} {R : Room} {s : State} {mi : MethodId} {args : Array Value} {below : List Frame} {meth : Method} {c : Code} {H H0 : Heap} {locs : List Loc} {cells slots : Nat} {Q : State → Prop} {cc : ByteArray} {pc : Nat} {ls : Array Slot} {rest : List Value} {D : va_G} {cy : Nat → ClassId} {ad : ZN → Nat} {L : List ZN} {m : ZM} (C : zX p s mi args c cc RX7 D cy) (hw : zH D cy ad L H0 H locs m) {a b : Nat} (hn : (13, a, b) ∈ L) (hdg : decode cc pc = .ok (.getfield 46, 3)) (kk : W p l e R s mi args below meth c H locs cells slots Q (F0 mi (pc + 3) ls (.ref (ad (2, 19 + 20 * a, 24)) :: rest))) : W p l e R s mi args below meth c H locs cells slots Q (F0 mi pc ls (.ref (ad (13, a, b)) :: rest)) := zget (n := (13, a, b)) C hw hn rfl rfl inlX7 13 (by decide) zF_X7_46 rfl rfl hdg kk
theorem zg_X7_49 {p : Program} {l : Launch} {e : Env} {R : Room} {s : State} {mi : MethodId} {args : Array Value} {below : List Frame} {meth : Method} {c : Code} {H H0 : Heap} {locs : List Loc} {cells slots : Nat} {Q : State → Prop} {cc : ByteArray} {pc : Nat} {ls : Array Slot} {rest : List Value} {D : va_G} {cy : Nat → ClassId} {ad : ZN → Nat} {L : List ZN} {m : ZM} (C : zX p s mi args c cc RX7 D cy) (hw : zH D cy ad L H0 H locs m) {a b : Nat} (hn : (13, a, b) ∈ L) (hdg : decode cc pc = .ok (.getfield 49, 3)) (kk : W p l e R s mi args below meth c H locs cells slots Q (F0 mi (pc + 3) ls (.ref (ad (2, 20 + 20 * a, 90)) :: rest))) : W p l e R s mi args below meth c H locs cells slots Q (F0 mi pc ls (.ref (ad (13, a, b)) :: rest)) := zget (n := (13, a, b)) C hw hn rfl rfl inlX7 15 (by decide) zF_X7_49 rfl rfl hdg kk
theorem zg_X7_52 {p : Program} {l : Launch} {e : Env} {R : Room} {s : State} {mi : MethodId} {args : Array Value} {below : List Frame} {meth : Method} {c : Code} {H H0 : Heap} {locs : List Loc} {cells slots : Nat} {Q : State → Prop} {cc : ByteArray} {pc : Nat} {ls : Array Slot} {rest : List Value} {D : va_G} {cy : Nat → ClassId} {ad : ZN → Nat} {L : List ZN} {m : ZM} (C : zX p s mi args c cc RX7 D cy) (hw : zH D cy ad L H0 H locs m) {a b : Nat} (hn : (13, a, b) ∈ L) (hdg : decode cc pc = .ok (.getfield 52, 3)) (kk : W p l e R s mi args below meth c H locs cells slots Q (F0 mi (pc + 3) ls (.ref (ad (2, 21 + 20 * a, 6)) :: rest))) : W p l e R s mi args below meth c H locs cells slots Q (F0 mi pc ls (.ref (ad (13, a, b)) :: rest)) := zget (n := (13, a, b)) C hw hn rfl rfl inlX7 16 (by decide) zF_X7_52 rfl rfl hdg kk
theorem zg_X7_61 {p : Program} {l : Launch} {e : Env} {R : Room} {s : State} {mi : MethodId} {args : Array Value} {below : List Frame} {meth : Method} {c : Code} {H H0 : Heap} {locs : List Loc} {cells slots : Nat} {Q : State → Prop} {cc : ByteArray} {pc : Nat} {ls : Array Slot} {rest : List Value} {D : va_G} {cy : Nat → ClassId} {ad : ZN → Nat} {L : List ZN} {m : ZM} (C : zX p s mi args c cc RX7 D cy) (hw : zH D cy ad L H0 H locs m) {a b : Nat} (hn : (13, a, b) ∈ L) (hdg : decode cc pc = .ok (.getfield 61, 3)) (kk : W p l e R s mi args below meth c H locs cells slots Q (F0 mi (pc + 3) ls (.int (m (13, a, b) 0) :: rest))) : W p l e R s mi args below meth c H locs cells slots Q (F0 mi pc ls (.ref (ad (13, a, b)) :: rest)) := zget (n := (13, a, b)) C hw hn rfl rfl inlX7 0 (by decide) zF_X7_61 rfl rfl hdg kk
theorem zg_X7_64 {p : Program} {l : Launch} {e : Env} {R : Room} {s : State} {mi : MethodId} {args : Array Value} {below : List Frame} {meth : Method} {c : Code} {H H0 : Heap} {locs : List Loc} {cells slots : Nat} {Q : State → Prop} {cc : ByteArray} {pc : Nat} {ls : Array Slot} {rest : List Value} {D : va_G} {cy : Nat → ClassId} {ad : ZN → Nat} {L : List ZN} {m : ZM} (C : zX p s mi args c cc RX7 D cy) (hw : zH D cy ad L H0 H locs m) {a b : Nat} (hn : (13, a, b) ∈ L) (hdg : decode cc pc = .ok (.getfield 64, 3)) (kk : W p l e R s mi args below meth c H locs cells slots Q (F0 mi (pc + 3) ls (.int (m (13, a, b) 4) :: rest))) : W p l e R s mi args below meth c H locs cells slots Q (F0 mi pc ls (.ref (ad (13, a, b)) :: rest)) := zget (n := (13, a, b)) C hw hn rfl rfl inlX7 4 (by decide) zF_X7_64 rfl rfl hdg kk
theorem zg_X7_67 {p : Program} {l : Launch} {e : Env} {R : Room} {s : State} {mi : MethodId} {args : Array Value} {below : List Frame} {meth : Method} {c : Code} {H H0 : Heap} {locs : List Loc} {cells slots : Nat} {Q : State → Prop} {cc : ByteArray} {pc : Nat} {ls : Array Slot} {rest : List Value} {D : va_G} {cy : Nat → ClassId} {ad : ZN → Nat} {L : List ZN} {m : ZM} (C : zX p s mi args c cc RX7 D cy) (hw : zH D cy ad L H0 H locs m) {a b : Nat} (hn : (13, a, b) ∈ L) (hdg : decode cc pc = .ok (.getfield 67, 3)) (kk : W p l e R s mi args below meth c H locs cells slots Q (F0 mi (pc + 3) ls (.int (m (13, a, b) 14) :: rest))) : W p l e R s mi args below meth c H locs cells slots Q (F0 mi pc ls (.ref (ad (13, a, b)) :: rest)) := zget (n := (13, a, b)) C hw hn rfl rfl inlX7 14 (by decide) zF_X7_67 rfl rfl hdg kk
theorem zg_X7_70 {p : Program} {l : Launch} {e : Env} {R : Room} {s : State} {mi : MethodId} {args : Array Value} {below : List Frame} {meth : Method} {c : Code} {H H0 : Heap} {locs : List Loc} {cells slots : Nat} {Q : State → Prop} {cc : ByteArray} {pc : Nat} {ls : Array Slot} {rest : List Value} {D : va_G} {cy : Nat → ClassId} {ad : ZN → Nat} {L : List ZN} {m : ZM} (C : zX p s mi args c cc RX7 D cy) (hw : zH D cy ad L H0 H locs m) {a b : Nat} (hn : (13, a, b) ∈ L) (hdg : decode cc pc = .ok (.getfield 70, 3)) (kk : W p l e R s mi args below meth c H locs cells slots Q (F0 mi (pc + 3) ls (.int (m (13, a, b) 17) :: rest))) : W p l e R s mi args below meth c H locs cells slots Q (F0 mi pc ls (.ref (ad (13, a, b)) :: rest)) := zget (n := (13, a, b)) C hw hn rfl rfl inlX7 17 (by decide) zF_X7_70 rfl rfl hdg kk
theorem zg_X8_10 {p : Program} {l : Launch} {e : Env} {R : Room} {s : State} {mi : MethodId} {args : Array Value} {below : List Frame} {meth : Method} {c : Code} {H H0 : Heap} {locs : List Loc} {cells slots : Nat} {Q : State → Prop} {cc : ByteArray} {pc : Nat} {ls : Array Slot} {rest : List Value} {D : va_G} {cy : Nat → ClassId} {ad : ZN → Nat} {L : List ZN} {m : ZM} (C : zX p s mi args c cc RX8 D cy) (hw : zH D cy ad L H0 H locs m) {a b : Nat} (hn : (12, a, b) ∈ L) (hdg : decode cc pc = .ok (.getfield 10, 3)) (kk : W p l e R s mi args below meth c H locs cells slots Q (F0 mi (pc + 3) ls (.ref (ad (13, 0, 0)) :: rest))) : W p l e R s mi args below meth c H locs cells slots Q (F0 mi pc ls (.ref (ad (12, a, b)) :: rest)) := zget (n := (12, a, b)) C hw hn rfl rfl inlX8 1 (by decide) zF_X8_10 rfl rfl hdg kk
theorem zg_X8_16 {p : Program} {l : Launch} {e : Env} {R : Room} {s : State} {mi : MethodId} {args : Array Value} {below : List Frame} {meth : Method} {c : Code} {H H0 : Heap} {locs : List Loc} {cells slots : Nat} {Q : State → Prop} {cc : ByteArray} {pc : Nat} {ls : Array Slot} {rest : List Value} {D : va_G} {cy : Nat → ClassId} {ad : ZN → Nat} {L : List ZN} {m : ZM} (C : zX p s mi args c cc RX8 D cy) (hw : zH D cy ad L H0 H locs m) {a b : Nat} (hn : (12, a, b) ∈ L) (hdg : decode cc pc = .ok (.getfield 16, 3)) (kk : W p l e R s mi args below meth c H locs cells slots Q (F0 mi (pc + 3) ls (.ref (ad (13, 1, 0)) :: rest))) : W p l e R s mi args below meth c H locs cells slots Q (F0 mi pc ls (.ref (ad (12, a, b)) :: rest)) := zget (n := (12, a, b)) C hw hn rfl rfl inlX8 2 (by decide) zF_X8_16 rfl rfl hdg kk
theorem zg_X8_19 {p : Program} {l : Launch} {e : Env} {R : Room} {s : State} {mi : MethodId} {args : Array Value} {below : List Frame} {meth : Method} {c : Code} {H H0 : Heap} {locs : List Loc} {cells slots : Nat} {Q : State → Prop} {cc : ByteArray} {pc : Nat} {ls : Array Slot} {rest : List Value} {D : va_G} {cy : Nat → ClassId} {ad : ZN → Nat} {L : List ZN} {m : ZM} (C : zX p s mi args c cc RX8 D cy) (hw : zH D cy ad L H0 H locs m) {a b : Nat} (hn : (12, a, b) ∈ L) (hdg : decode cc pc = .ok (.getfield 19, 3)) (kk : W p l e R s mi args below meth c H locs cells slots Q (F0 mi (pc + 3) ls (.ref (ad (2, 60, 2)) :: rest))) : W p l e R s mi args below meth c H locs cells slots Q (F0 mi pc ls (.ref (ad (12, a, b)) :: rest)) := zget (n := (12, a, b)) C hw hn rfl rfl inlX8 3 (by decide) zF_X8_19 rfl rfl hdg kk
theorem zg_X8_23 {p : Program} {l : Launch} {e : Env} {R : Room} {s : State} {mi : MethodId} {args : Array Value} {below : List Frame} {meth : Method} {c : Code} {H H0 : Heap} {locs : List Loc} {cells slots : Nat} {Q : State → Prop} {cc : ByteArray} {pc : Nat} {ls : Array Slot} {rest : List Value} {D : va_G} {cy : Nat → ClassId} {ad : ZN → Nat} {L : List ZN} {m : ZM} (C : zX p s mi args c cc RX8 D cy) (hw : zH D cy ad L H0 H locs m) {a b : Nat} (hn : (12, a, b) ∈ L) (hdg : decode cc pc = .ok (.getfield 23, 3)) (kk : W p l e R s mi args below meth c H locs cells slots Q (F0 mi (pc + 3) ls (.int (m (12, a, b) 0) :: rest))) : W p l e R s mi args below meth c H locs cells slots Q (F0 mi pc ls (.ref (ad (12, a, b)) :: rest)) := zget (n := (12, a, b)) C hw hn rfl rfl inlX8 0 (by decide) zF_X8_23 rfl rfl hdg kk
theorem zg_X8_35 {p : Program} {l : Launch} {e : Env} {R : Room} {s : State} {mi : MethodId} {args : Array Value} {below : List Frame} {meth : Method} {c : Code} {H H0 : Heap} {locs : List Loc} {cells slots : Nat} {Q : State → Prop} {cc : ByteArray} {pc : Nat} {ls : Array Slot} {rest : List Value} {D : va_G} {cy : Nat → ClassId} {ad : ZN → Nat} {L : List ZN} {m : ZM} (C : zX p s mi args c cc RX8 D cy) (hw : zH D cy ad L H0 H locs m) {a b : Nat} (hn : (13, a, b) ∈ L) (hdg : decode cc pc = .ok (.getfield 35, 3)) (kk : W p l e R s mi args below meth c H locs cells slots Q (F0 mi (pc + 3) ls (.ref (ad (2, 10 + 20 * a, 24)) :: rest))) : W p l e R s mi args below meth c H locs cells slots Q (F0 mi pc ls (.ref (ad (13, a, b)) :: rest)) := zgetN (n := (13, a, b)) C hw hn rfl rfl inlX7 3 (by decide) (znest_at 3 rfl) rfl rfl hdg kk
theorem zg_X8_38 {p : Program} {l : Launch} {e : Env} {R : Room} {s : State} {mi : MethodId} {args : Array Value} {below : List Frame} {meth : Method} {c : Code} {H H0 : Heap} {locs : List Loc} {cells slots : Nat} {Q : State → Prop} {cc : ByteArray} {pc : Nat} {ls : Array Slot} {rest : List Value} {D : va_G} {cy : Nat → ClassId} {ad : ZN → Nat} {L : List ZN} {m : ZM} (C : zX p s mi args c cc RX8 D cy) (hw : zH D cy ad L H0 H locs m) {a b : Nat} (hn : (13, a, b) ∈ L) (hdg : decode cc pc = .ok (.getfield 38, 3)) (kk : W p l e R s mi args below meth c H locs cells slots Q (F0 mi (pc + 3) ls (.int (m (13, a, b) 2) :: rest))) : W p l e R s mi args below meth c H locs cells slots Q (F0 mi pc ls (.ref (ad (13, a, b)) :: rest)) := zgetN (n := (13, a, b)) C hw hn rfl rfl inlX7 2 (by decide) (znest_at 2 rfl) rfl rfl hdg kk
theorem zg_X8_41 {p : Program} {l : Launch} {e : Env} {R : Room} {s : State} {mi : MethodId} {args : Array Value} {below : List Frame} {meth : Method} {c : Code} {H H0 : Heap} {locs : List Loc} {cells slots : Nat} {Q : State → Prop} {cc : ByteArray} {pc : Nat} {ls : Array Slot} {rest : List Value} {D : va_G} {cy : Nat → ClassId} {ad : ZN → Nat} {L : List ZN} {m : ZM} (C : zX p s mi args c cc RX8 D cy) (hw : zH D cy ad L H0 H locs m) {a b : Nat} (hn : (13, a, b) ∈ L) (hdg : decode cc pc = .ok (.getfield 41, 3)) (kk : W p l e R s mi args below meth c H locs cells slots Q (F0 mi (pc + 3) ls (.int (m (13, a, b) 4) :: rest))) : W p l e R s mi args below meth c H locs cells slots Q (F0 mi pc ls (.ref (ad (13, a, b)) :: rest)) := zgetN (n := (13, a, b)) C hw hn rfl rfl inlX7 4 (by decide) (znest_at 4 rfl) rfl rfl hdg kk
theorem zg_X8_44 {p : Program} {l : Launch} {e : Env} {R : Room} {s : State} {mi : MethodId} {args : Array Value} {below : List Frame} {meth : Method} {c : Code} {H H0 : Heap} {locs : List Loc} {cells slots : Nat} {Q : State → Prop} {cc : ByteArray} {pc : Nat} {ls : Array Slot} {rest : List Value} {D : va_G} {cy : Nat → ClassId} {ad : ZN → Nat} {L : List ZN} {m : ZM} (C : zX p s mi args c cc RX8 D cy) (hw : zH D cy ad L H0 H locs m) {a b : Nat} (hn : (13, a, b) ∈ L) (hdg : decode cc pc = .ok (.getfield 44, 3)) (kk : W p l e R s mi args below meth c H locs cells slots Q (F0 mi (pc + 3) ls (.ref (ad (2, 15 + 20 * a, 4)) :: rest))) : W p l e R s mi args below meth c H locs cells slots Q (F0 mi pc ls (.ref (ad (13, a, b)) :: rest)) := zgetN (n := (13, a, b)) C hw hn rfl rfl inlX7 9 (by decide) (znest_at 9 rfl) rfl rfl hdg kk
theorem zg_X8_47 {p : Program} {l : Launch} {e : Env} {R : Room} {s : State} {mi : MethodId} {args : Array Value} {below : List Frame} {meth : Method} {c : Code} {H H0 : Heap} {locs : List Loc} {cells slots : Nat} {Q : State → Prop} {cc : ByteArray} {pc : Nat} {ls : Array Slot} {rest : List Value} {D : va_G} {cy : Nat → ClassId} {ad : ZN → Nat} {L : List ZN} {m : ZM} (C : zX p s mi args c cc RX8 D cy) (hw : zH D cy ad L H0 H locs m) {a b : Nat} (hn : (13, a, b) ∈ L) (hdg : decode cc pc = .ok (.getfield 47, 3)) (kk : W p l e R s mi args below meth c H locs cells slots Q (F0 mi (pc + 3) ls (.ref (ad (2, 17 + 20 * a, 4)) :: rest))) : W p l e R s mi args below meth c H locs cells slots Q (F0 mi pc ls (.ref (ad (13, a, b)) :: rest)) := zgetN (n := (13, a, b)) C hw hn rfl rfl inlX7 11 (by decide) (znest_at 11 rfl) rfl rfl hdg kk
theorem zg_X8_54 {p : Program} {l : Launch} {e : Env} {R : Room} {s : State} {mi : MethodId} {args : Array Value} {below : List Frame} {meth : Method} {c : Code} {H H0 : Heap} {locs : List Loc} {cells slots : Nat} {Q : State → Prop} {cc : ByteArray} {pc : Nat} {ls : Array Slot} {rest : List Value} {D : va_G} {cy : Nat → ClassId} {ad : ZN → Nat} {L : List ZN} {m : ZM} (C : zX p s mi args c cc RX8 D cy) (hw : zH D cy ad L H0 H locs m) {a b : Nat} (hn : (13, a, b) ∈ L) (hdg : decode cc pc = .ok (.getfield 54, 3)) (kk : W p l e R s mi args below meth c H locs cells slots Q (F0 mi (pc + 3) ls (.ref (ad (2, 11 + 20 * a, 4)) :: rest))) : W p l e R s mi args below meth c H locs cells slots Q (F0 mi pc ls (.ref (ad (13, a, b)) :: rest)) := zgetN (n := (13, a, b)) C hw hn rfl rfl inlX7 5 (by decide) (znest_at 5 rfl) rfl rfl hdg kk
theorem zg_X8_57 {p : Program} {l : Launch} {e : Env} {R : Room} {s : State} {mi : MethodId} {args : Array Value} {below : List Frame} {meth : Method} {c : Code} {H H0 : Heap} {locs : List Loc} {cells slots : Nat} {Q : State → Prop} {cc : ByteArray} {pc : Nat} {ls : Array Slot} {rest : List Value} {D : va_G} {cy : Nat → ClassId} {ad : ZN → Nat} {L : List ZN} {m : ZM} (C : zX p s mi args c cc RX8 D cy) (hw : zH D cy ad L H0 H locs m) {a b : Nat} (hn : (13, a, b) ∈ L) (hdg : decode cc pc = .ok (.getfield 57, 3)) (kk : W p l e R s mi args below meth c H locs cells slots Q (F0 mi (pc + 3) ls (.ref (ad (2, 12 + 20 * a, 16)) :: rest))) : W p l e R s mi args below meth c H locs cells slots Q (F0 mi pc ls (.ref (ad (13, a, b)) :: rest)) := zgetN (n := (13, a, b)) C hw hn rfl rfl inlX7 6 (by decide) (znest_at 6 rfl) rfl rfl hdg kk
theorem zg_X8_60 {p : Program} {l : Launch} {e : Env} {R : Room} {s : State} {mi : MethodId} {args : Array Value} {below : List Frame} {meth : Method} {c : Code} {H H0 : Heap} {locs : List Loc} {cells slots : Nat} {Q : State → Prop} {cc : ByteArray} {pc : Nat} {ls : Array Slot} {rest : List Value} {D : va_G} {cy : Nat → ClassId} {ad : ZN → Nat} {L : List ZN} {m : ZM} (C : zX p s mi args c cc RX8 D cy) (hw : zH D cy ad L H0 H locs m) {a b : Nat} (hn : (13, a, b) ∈ L) (hdg : decode cc pc = .ok (.getfield 60, 3)) (kk : W p l e R s mi args below meth c H locs cells slots Q (F0 mi (pc + 3) ls (.ref (ad (2, 13 + 20 * a, 16)) :: rest))) : W p l e R s mi args below meth c H locs cells slots Q (F0 mi pc ls (.ref (ad (13, a, b)) :: rest)) := zgetN (n := (13, a, b)) C hw hn rfl rfl inlX7 7 (by decide) (znest_at 7 rfl) rfl rfl hdg kk
theorem zg_X8_63 {p : Program} {l : Launch} {e : Env} {R : Room} {s : State} {mi : MethodId} {args : Array Value} {below : List Frame} {meth : Method} {c : Code} {H H0 : Heap} {locs : List Loc} {cells slots : Nat} {Q : State → Prop} {cc : ByteArray} {pc : Nat} {ls : Array Slot} {rest : List Value} {D : va_G} {cy : Nat → ClassId} {ad : ZN → Nat} {L : List ZN} {m : ZM} (C : zX p s mi args c cc RX8 D cy) (hw : zH D cy ad L H0 H locs m) {a b : Nat} (hn : (13, a, b) ∈ L) (hdg : decode cc pc = .ok (.getfield 63, 3)) (kk : W p l e R s mi args below meth c H locs cells slots Q (F0 mi (pc + 3) ls (.ref (ad (2, 14 + 20 * a, 16)) :: rest))) : W p l e R s mi args below meth c H locs cells slots Q (F0 mi pc ls (.ref (ad (13, a, b)) :: rest)) := zgetN (n := (13, a, b)) C hw hn rfl rfl inlX7 8 (by decide) (znest_at 8 rfl) rfl rfl hdg kk
theorem zg_X8_66 {p : Program} {l : Launch} {e : Env} {R : Room} {s : State} {mi : MethodId} {args : Array Value} {below : List Frame} {meth : Method} {c : Code} {H H0 : Heap} {locs : List Loc} {cells slots : Nat} {Q : State → Prop} {cc : ByteArray} {pc : Nat} {ls : Array Slot} {rest : List Value} {D : va_G} {cy : Nat → ClassId} {ad : ZN → Nat} {L : List ZN} {m : ZM} (C : zX p s mi args c cc RX8 D cy) (hw : zH D cy ad L H0 H locs m) {a b : Nat} (hn : (13, a, b) ∈ L) (hdg : decode cc pc = .ok (.getfield 66, 3)) (kk : W p l e R s mi args below meth c H locs cells slots Q (F0 mi (pc + 3) ls (.ref (ad (2, 16 + 20 * a, 4)) :: rest))) : W p l e R s mi args below meth c H locs cells slots Q (F0 mi pc ls (.ref (ad (13, a, b)) :: rest)) := zgetN (n := (13, a, b)) C hw hn rfl rfl inlX7 10 (by decide) (znest_at 10 rfl) rfl rfl hdg kk
theorem zg_X8_69 {p : Program} {l : Launch} {e : Env} {R : Room} {s : State} {mi : MethodId} {args : Array Value} {below : List Frame} {meth : Method} {c : Code} {H H0 : Heap} {locs : List Loc} {cells slots : Nat} {Q : State → Prop} {cc : ByteArray} {pc : Nat} {ls : Array Slot} {rest : List Value} {D : va_G} {cy : Nat → ClassId} {ad : ZN → Nat} {L : List ZN} {m : ZM} (C : zX p s mi args c cc RX8 D cy) (hw : zH D cy ad L H0 H locs m) {a b : Nat} (hn : (13, a, b) ∈ L) (hdg : decode cc pc = .ok (.getfield 69, 3)) (kk : W p l e R s mi args below meth c H locs cells slots Q (F0 mi (pc + 3) ls (.ref (ad (2, 19 + 20 * a, 24)) :: rest))) : W p l e R s mi args below meth c H locs cells slots Q (F0 mi pc ls (.ref (ad (13, a, b)) :: rest)) := zgetN (n := (13, a, b)) C hw hn rfl rfl inlX7 13 (by decide) (znest_at 13 rfl) rfl rfl hdg kk
theorem zg_X8_72 {p : Program} {l : Launch} {e : Env} {R : Room} {s : State} {mi : MethodId} {args : Array Value} {below : List Frame} {meth : Method} {c : Code} {H H0 : Heap} {locs : List Loc} {cells slots : Nat} {Q : State → Prop} {cc : ByteArray} {pc : Nat} {ls : Array Slot} {rest : List Value} {D : va_G} {cy : Nat → ClassId} {ad : ZN → Nat} {L : List ZN} {m : ZM} (C : zX p s mi args c cc RX8 D cy) (hw : zH D cy ad L H0 H locs m) {a b : Nat} (hn : (13, a, b) ∈ L) (hdg : decode cc pc = .ok (.getfield 72, 3)) (kk : W p l e R s mi args below meth c H locs cells slots Q (F0 mi (pc + 3) ls (.ref (ad (2, 18 + 20 * a, 4)) :: rest))) : W p l e R s mi args below meth c H locs cells slots Q (F0 mi pc ls (.ref (ad (13, a, b)) :: rest)) := zgetN (n := (13, a, b)) C hw hn rfl rfl inlX7 12 (by decide) (znest_at 12 rfl) rfl rfl hdg kk
theorem zg_X8_79 {p : Program} {l : Launch} {e : Env} {R : Room} {s : State} {mi : MethodId} {args : Array Value} {below : List Frame} {meth : Method} {c : Code} {H H0 : Heap} {locs : List Loc} {cells slots : Nat} {Q : State → Prop} {cc : ByteArray} {pc : Nat} {ls : Array Slot} {rest : List Value} {D : va_G} {cy : Nat → ClassId} {ad : ZN → Nat} {L : List ZN} {m : ZM} (C : zX p s mi args c cc RX8 D cy) (hw : zH D cy ad L H0 H locs m) {a b : Nat} (hn : (13, a, b) ∈ L) (hdg : decode cc pc = .ok (.getfield 79, 3)) (kk : W p l e R s mi args below meth c H locs cells slots Q (F0 mi (pc + 3) ls (.int (m (13, a, b) 14) :: rest))) : W p l e R s mi args below meth c H locs cells slots Q (F0 mi pc ls (.ref (ad (13, a, b)) :: rest)) := zgetN (n := (13, a, b)) C hw hn rfl rfl inlX7 14 (by decide) (znest_at 14 rfl) rfl rfl hdg kk
theorem zg_X8_86 {p : Program} {l : Launch} {e : Env} {R : Room} {s : State} {mi : MethodId} {args : Array Value} {below : List Frame} {meth : Method} {c : Code} {H H0 : Heap} {locs : List Loc} {cells slots : Nat} {Q : State → Prop} {cc : ByteArray} {pc : Nat} {ls : Array Slot} {rest : List Value} {D : va_G} {cy : Nat → ClassId} {ad : ZN → Nat} {L : List ZN} {m : ZM} (C : zX p s mi args c cc RX8 D cy) (hw : zH D cy ad L H0 H locs m) {a b : Nat} (hn : (13, a, b) ∈ L) (hdg : decode cc pc = .ok (.getfield 86, 3)) (kk : W p l e R s mi args below meth c H locs cells slots Q (F0 mi (pc + 3) ls (.ref (ad (2, 20 + 20 * a, 90)) :: rest))) : W p l e R s mi args below meth c H locs cells slots Q (F0 mi pc ls (.ref (ad (13, a, b)) :: rest)) := zgetN (n := (13, a, b)) C hw hn rfl rfl inlX7 15 (by decide) (znest_at 15 rfl) rfl rfl hdg kk
theorem zg_X8_93 {p : Program} {l : Launch} {e : Env} {R : Room} {s : State} {mi : MethodId} {args : Array Value} {below : List Frame} {meth : Method} {c : Code} {H H0 : Heap} {locs : List Loc} {cells slots : Nat} {Q : State → Prop} {cc : ByteArray} {pc : Nat} {ls : Array Slot} {rest : List Value} {D : va_G} {cy : Nat → ClassId} {ad : ZN → Nat} {L : List ZN} {m : ZM} (C : zX p s mi args c cc RX8 D cy) (hw : zH D cy ad L H0 H locs m) {a b : Nat} (hn : (13, a, b) ∈ L) (hdg : decode cc pc = .ok (.getfield 93, 3)) (kk : W p l e R s mi args below meth c H locs cells slots Q (F0 mi (pc + 3) ls (.int (m (13, a, b) 0) :: rest))) : W p l e R s mi args below meth c H locs cells slots Q (F0 mi pc ls (.ref (ad (13, a, b)) :: rest)) := zgetN (n := (13, a, b)) C hw hn rfl rfl inlX7 0 (by decide) (znest_at 0 rfl) rfl rfl hdg kk
theorem zg_X8_100 {p : Program} {l : Launch} {e : Env} {R : Room} {s : State} {mi : MethodId} {args : Array Value} {below : List Frame} {meth : Method} {c : Code} {H H0 : Heap} {locs : List Loc} {cells slots : Nat} {Q : State → Prop} {cc : ByteArray} {pc : Nat} {ls : Array Slot} {rest : List Value} {D : va_G} {cy : Nat → ClassId} {ad : ZN → Nat} {L : List ZN} {m : ZM} (C : zX p s mi args c cc RX8 D cy) (hw : zH D cy ad L H0 H locs m) {a b : Nat} (hn : (13, a, b) ∈ L) (hdg : decode cc pc = .ok (.getfield 100, 3)) (kk : W p l e R s mi args below meth c H locs cells slots Q (F0 mi (pc + 3) ls (.int (m (13, a, b) 1) :: rest))) : W p l e R s mi args below meth c H locs cells slots Q (F0 mi pc ls (.ref (ad (13, a, b)) :: rest)) := zgetN (n := (13, a, b)) C hw hn rfl rfl inlX7 1 (by decide) (znest_at 1 rfl) rfl rfl hdg kk
theorem zg_X8_109 {p : Program} {l : Launch} {e : Env} {R : Room} {s : State} {mi : MethodId} {args : Array Value} {below : List Frame} {meth : Method} {c : Code} {H H0 : Heap} {locs : List Loc} {cells slots : Nat} {Q : State → Prop} {cc : ByteArray} {pc : Nat} {ls : Array Slot} {rest : List Value} {D : va_G} {cy : Nat → ClassId} {ad : ZN → Nat} {L : List ZN} {m : ZM} (C : zX p s mi args c cc RX8 D cy) (hw : zH D cy ad L H0 H locs m) {a b : Nat} (hn : (13, a, b) ∈ L) (hdg : decode cc pc = .ok (.getfield 109, 3)) (kk : W p l e R s mi args below meth c H locs cells slots Q (F0 mi (pc + 3) ls (.int (m (13, a, b) 17) :: rest))) : W p l e R s mi args below meth c H locs cells slots Q (F0 mi pc ls (.ref (ad (13, a, b)) :: rest)) := zgetN (n := (13, a, b)) C hw hn rfl rfl inlX7 17 (by decide) (znest_at 17 rfl) rfl rfl hdg kk
theorem zg_X8_112 {p : Program} {l : Launch} {e : Env} {R : Room} {s : State} {mi : MethodId} {args : Array Value} {below : List Frame} {meth : Method} {c : Code} {H H0 : Heap} {locs : List Loc} {cells slots : Nat} {Q : State → Prop} {cc : ByteArray} {pc : Nat} {ls : Array Slot} {rest : List Value} {D : va_G} {cy : Nat → ClassId} {ad : ZN → Nat} {L : List ZN} {m : ZM} (C : zX p s mi args c cc RX8 D cy) (hw : zH D cy ad L H0 H locs m) {a b : Nat} (hn : (12, a, b) ∈ L) (hdg : decode cc pc = .ok (.getfield 112, 3)) (kk : W p l e R s mi args below meth c H locs cells slots Q (F0 mi (pc + 3) ls (.int (m (12, a, b) 5) :: rest))) : W p l e R s mi args below meth c H locs cells slots Q (F0 mi pc ls (.ref (ad (12, a, b)) :: rest)) := zget (n := (12, a, b)) C hw hn rfl rfl inlX8 5 (by decide) zF_X8_112 rfl rfl hdg kk
theorem zg_X8_115 {p : Program} {l : Launch} {e : Env} {R : Room} {s : State} {mi : MethodId} {args : Array Value} {below : List Frame} {meth : Method} {c : Code} {H H0 : Heap} {locs : List Loc} {cells slots : Nat} {Q : State → Prop} {cc : ByteArray} {pc : Nat} {ls : Array Slot} {rest : List Value} {D : va_G} {cy : Nat → ClassId} {ad : ZN → Nat} {L : List ZN} {m : ZM} (C : zX p s mi args c cc RX8 D cy) (hw : zH D cy ad L H0 H locs m) {a b : Nat} (hn : (12, a, b) ∈ L) (hdg : decode cc pc = .ok (.getfield 115, 3)) (kk : W p l e R s mi args below meth c H locs cells slots Q (F0 mi (pc + 3) ls (.int (m (12, a, b) 4) :: rest))) : W p l e R s mi args below meth c H locs cells slots Q (F0 mi pc ls (.ref (ad (12, a, b)) :: rest)) := zget (n := (12, a, b)) C hw hn rfl rfl inlX8 4 (by decide) zF_X8_115 rfl rfl hdg kk
theorem zg_X8_118 {p : Program} {l : Launch} {e : Env} {R : Room} {s : State} {mi : MethodId} {args : Array Value} {below : List Frame} {meth : Method} {c : Code} {H H0 : Heap} {locs : List Loc} {cells slots : Nat} {Q : State → Prop} {cc : ByteArray} {pc : Nat} {ls : Array Slot} {rest : List Value} {D : va_G} {cy : Nat → ClassId} {ad : ZN → Nat} {L : List ZN} {m : ZM} (C : zX p s mi args c cc RX8 D cy) (hw : zH D cy ad L H0 H locs m) {a b : Nat} (hn : (12, a, b) ∈ L) (hdg : decode cc pc = .ok (.getfield 118, 3)) (kk : W p l e R s mi args below meth c H locs cells slots Q (F0 mi (pc + 3) ls (.int (m (12, a, b) 6) :: rest))) : W p l e R s mi args below meth c H locs cells slots Q (F0 mi pc ls (.ref (ad (12, a, b)) :: rest)) := zget (n := (12, a, b)) C hw hn rfl rfl inlX8 6 (by decide) zF_X8_118 rfl rfl hdg kk
theorem zg_X8_129 {p : Program} {l : Launch} {e : Env} {R : Room} {s : State} {mi : MethodId} {args : Array Value} {below : List Frame} {meth : Method} {c : Code} {H H0 : Heap} {locs : List Loc} {cells slots : Nat} {Q : State → Prop} {cc : ByteArray} {pc : Nat} {ls : Array Slot} {rest : List Value} {D : va_G} {cy : Nat → ClassId} {ad : ZN → Nat} {L : List ZN} {m : ZM} (C : zX p s mi args c cc RX8 D cy) (hw : zH D cy ad L H0 H locs m) {a b : Nat} (hn : (13, a, b) ∈ L) (hdg : decode cc pc = .ok (.getfield 129, 3)) (kk : W p l e R s mi args below meth c H locs cells slots Q (F0 mi (pc + 3) ls (.ref (ad (2, 21 + 20 * a, 6)) :: rest))) : W p l e R s mi args below meth c H locs cells slots Q (F0 mi pc ls (.ref (ad (13, a, b)) :: rest)) := zgetN (n := (13, a, b)) C hw hn rfl rfl inlX7 16 (by decide) (znest_at 16 rfl) rfl rfl hdg kk
theorem zp_X0_31 {p : Program} {l : Launch} {e : Env} {R : Room} {s : State} {mi : MethodId} {args : Array Value} {below : List Frame} {meth : Method} {c : Code} {H H0 : Heap} {locs : List Loc} {cells slots : Nat} {Q : State → Prop} {cc : ByteArray} {pc : Nat} {ls : Array Slot} {rest : List Value} {D : va_G} {cy : Nat → ClassId} {ad : ZN → Nat} {L : List ZN} {m : ZM} (C : zX p s mi args c cc RX0 D cy) (hw : zH D cy ad L H0 H locs m) {a b : Nat} (hn : (4, a, b) ∈ L) {x : Int32} (hdg : decode cc pc = .ok (.putfield 31, 3)) (kk : ∀ (H1 : Heap) (locs1 : List Loc) (m1 : ZM), m1 = zs m (4, a, b) 5 x → zH D cy ad L H0 H1 locs1 m1 → W p l e R s mi args below meth c H1 locs1 cells slots Q (F0 mi (pc + 3) ls rest)) : W p l e R s mi args below meth c H locs cells slots Q (F0 mi pc ls (.int x :: .ref (ad (4, a, b)) :: rest)) := zput (n := (4, a, b)) C hw hn rfl rfl inlX0 5 (by decide) zF_X0_31 rfl tyX0 tyX0_ok nmX0 rfl (by decide +kernel) (by show 5 < 9; decide) rfl hdg kk
theorem zp_X0_35 {p : Program} {l : Launch} {e : Env} {R : Room} {s : State} {mi : MethodId} {args : Array Value} {below : List Frame} {meth : Method} {c : Code} {H H0 : Heap} {locs : List Loc} {cells slots : Nat} {Q : State → Prop} {cc : ByteArray} {pc : Nat} {ls : Array Slot} {rest : List Value} {D : va_G} {cy : Nat → ClassId} {ad : ZN → Nat} {L : List ZN} {m : ZM} (C : zX p s mi args c cc RX0 D cy) (hw : zH D cy ad L H0 H locs m) {a b : Nat} (hn : (4, a, b) ∈ L) {x : Int32} (hdg : decode cc pc = .ok (.putfield 35, 3)) (kk : ∀ (H1 : Heap) (locs1 : List Loc) (m1 : ZM), m1 = zs m (4, a, b) 7 x → zH D cy ad L H0 H1 locs1 m1 → W p l e R s mi args below meth c H1 locs1 cells slots Q (F0 mi (pc + 3) ls rest)) : W p l e R s mi args below meth c H locs cells slots Q (F0 mi pc ls (.int x :: .ref (ad (4, a, b)) :: rest)) := zput (n := (4, a, b)) C hw hn rfl rfl inlX0 7 (by decide) zF_X0_35 rfl tyX0 tyX0_ok nmX0 rfl (by decide +kernel) (by show 7 < 9; decide) rfl hdg kk
theorem zp_X0_38 {p : Program} {l : Launch} {e : Env} {R : Room} {s : State} {mi : MethodId} {args : Array Value} {below : List Frame} {meth : Method} {c : Code} {H H0 : Heap} {locs : List Loc} {cells slots : Nat} {Q : State → Prop} {cc : ByteArray} {pc : Nat} {ls : Array Slot} {rest : List Value} {D : va_G} {cy : Nat → ClassId} {ad : ZN → Nat} {L : List ZN} {m : ZM} (C : zX p s mi args c cc RX0 D cy) (hw : zH D cy ad L H0 H locs m) {a b : Nat} (hn : (4, a, b) ∈ L) {x : Int32} (hdg : decode cc pc = .ok (.putfield 38, 3)) (kk : ∀ (H1 : Heap) (locs1 : List Loc) (m1 : ZM), m1 = zs m (4, a, b) 4 x → zH D cy ad L H0 H1 locs1 m1 → W p l e R s mi args below meth c H1 locs1 cells slots Q (F0 mi (pc + 3) ls rest)) : W p l e R s mi args below meth c H locs cells slots Q (F0 mi pc ls (.int x :: .ref (ad (4, a, b)) :: rest)) := zput (n := (4, a, b)) C hw hn rfl rfl inlX0 4 (by decide) zF_X0_38 rfl tyX0 tyX0_ok nmX0 rfl (by decide +kernel) (by show 4 < 9; decide) rfl hdg kk
theorem zp_X0_41 {p : Program} {l : Launch} {e : Env} {R : Room} {s : State} {mi : MethodId} {args : Array Value} {below : List Frame} {meth : Method} {c : Code} {H H0 : Heap} {locs : List Loc} {cells slots : Nat} {Q : State → Prop} {cc : ByteArray} {pc : Nat} {ls : Array Slot} {rest : List Value} {D : va_G} {cy : Nat → ClassId} {ad : ZN → Nat} {L : List ZN} {m : ZM} (C : zX p s mi args c cc RX0 D cy) (hw : zH D cy ad L H0 H locs m) {a b : Nat} (hn : (6, a, b) ∈ L) {x : Int32} (hdg : decode cc pc = .ok (.putfield 41, 3)) (kk : ∀ (H1 : Heap) (locs1 : List Loc) (m1 : ZM), m1 = zs m (6, a, b) 0 x → zH D cy ad L H0 H1 locs1 m1 → W p l e R s mi args below meth c H1 locs1 cells slots Q (F0 mi (pc + 3) ls rest)) : W p l e R s mi args below meth c H locs cells slots Q (F0 mi pc ls (.int x :: .ref (ad (6, a, b)) :: rest)) := zput (n := (6, a, b)) C hw hn rfl rfl inlX4 0 (by decide) zF_X0_41 rfl tyX4 tyX4_ok nmX4 rfl (by decide +kernel) (by show 0 < 3; decide) rfl hdg kk
theorem zp_X0_44 {p : Program} {l : Launch} {e : Env} {R : Room} {s : State} {mi : MethodId} {args : Array Value} {below : List Frame} {meth : Method} {c : Code} {H H0 : Heap} {locs : List Loc} {cells slots : Nat} {Q : State → Prop} {cc : ByteArray} {pc : Nat} {ls : Array Slot} {rest : List Value} {D : va_G} {cy : Nat → ClassId} {ad : ZN → Nat} {L : List ZN} {m : ZM} (C : zX p s mi args c cc RX0 D cy) (hw : zH D cy ad L H0 H locs m) {a b : Nat} (hn : (6, a, b) ∈ L) {x : Int32} (hdg : decode cc pc = .ok (.putfield 44, 3)) (kk : ∀ (H1 : Heap) (locs1 : List Loc) (m1 : ZM), m1 = zs m (6, a, b) 1 x → zH D cy ad L H0 H1 locs1 m1 → W p l e R s mi args below meth c H1 locs1 cells slots Q (F0 mi (pc + 3) ls rest)) : W p l e R s mi args below meth c H locs cells slots Q (F0 mi pc ls (.int x :: .ref (ad (6, a, b)) :: rest)) := zput (n := (6, a, b)) C hw hn rfl rfl inlX4 1 (by decide) zF_X0_44 rfl tyX4 tyX4_ok nmX4 rfl (by decide +kernel) (by show 1 < 3; decide) rfl hdg kk
theorem zp_X0_47 {p : Program} {l : Launch} {e : Env} {R : Room} {s : State} {mi : MethodId} {args : Array Value} {below : List Frame} {meth : Method} {c : Code} {H H0 : Heap} {locs : List Loc} {cells slots : Nat} {Q : State → Prop} {cc : ByteArray} {pc : Nat} {ls : Array Slot} {rest : List Value} {D : va_G} {cy : Nat → ClassId} {ad : ZN → Nat} {L : List ZN} {m : ZM} (C : zX p s mi args c cc RX0 D cy) (hw : zH D cy ad L H0 H locs m) {a b : Nat} (hn : (4, a, b) ∈ L) {x : Int32} (hdg : decode cc pc = .ok (.putfield 47, 3)) (kk : ∀ (H1 : Heap) (locs1 : List Loc) (m1 : ZM), m1 = zs m (4, a, b) 6 x → zH D cy ad L H0 H1 locs1 m1 → W p l e R s mi args below meth c H1 locs1 cells slots Q (F0 mi (pc + 3) ls rest)) : W p l e R s mi args below meth c H locs cells slots Q (F0 mi pc ls (.int x :: .ref (ad (4, a, b)) :: rest)) := zput (n := (4, a, b)) C hw hn rfl rfl inlX0 6 (by decide) zF_X0_47 rfl tyX0 tyX0_ok nmX0 rfl (by decide +kernel) (by show 6 < 9; decide) rfl hdg kk
theorem zp_X0_53 {p : Program} {l : Launch} {e : Env} {R : Room} {s : State} {mi : MethodId} {args : Array Value} {below : List Frame} {meth : Method} {c : Code} {H H0 : Heap} {locs : List Loc} {cells slots : Nat} {Q : State → Prop} {cc : ByteArray} {pc : Nat} {ls : Array Slot} {rest : List Value} {D : va_G} {cy : Nat → ClassId} {ad : ZN → Nat} {L : List ZN} {m : ZM} (C : zX p s mi args c cc RX0 D cy) (hw : zH D cy ad L H0 H locs m) {a b : Nat} (hn : (7, a, b) ∈ L) {x : Int32} (hdg : decode cc pc = .ok (.putfield 53, 3)) (kk : ∀ (H1 : Heap) (locs1 : List Loc) (m1 : ZM), m1 = zs m (7, a, b) 1 x → zH D cy ad L H0 H1 locs1 m1 → W p l e R s mi args below meth c H1 locs1 cells slots Q (F0 mi (pc + 3) ls rest)) : W p l e R s mi args below meth c H locs cells slots Q (F0 mi pc ls (.int x :: .ref (ad (7, a, b)) :: rest)) := zput (n := (7, a, b)) C hw hn rfl rfl inlX3 1 (by decide) zF_X0_53 rfl tyX3 tyX3_ok nmX3 rfl (by decide +kernel) (by show 1 < 2; decide) rfl hdg kk
theorem zp_X0_60 {p : Program} {l : Launch} {e : Env} {R : Room} {s : State} {mi : MethodId} {args : Array Value} {below : List Frame} {meth : Method} {c : Code} {H H0 : Heap} {locs : List Loc} {cells slots : Nat} {Q : State → Prop} {cc : ByteArray} {pc : Nat} {ls : Array Slot} {rest : List Value} {D : va_G} {cy : Nat → ClassId} {ad : ZN → Nat} {L : List ZN} {m : ZM} (C : zX p s mi args c cc RX0 D cy) (hw : zH D cy ad L H0 H locs m) {a b : Nat} (hn : (4, a, b) ∈ L) {x : Int32} (hdg : decode cc pc = .ok (.putfield 60, 3)) (kk : ∀ (H1 : Heap) (locs1 : List Loc) (m1 : ZM), m1 = zs m (4, a, b) 8 x → zH D cy ad L H0 H1 locs1 m1 → W p l e R s mi args below meth c H1 locs1 cells slots Q (F0 mi (pc + 3) ls rest)) : W p l e R s mi args below meth c H locs cells slots Q (F0 mi pc ls (.int x :: .ref (ad (4, a, b)) :: rest)) := zput (n := (4, a, b)) C hw hn rfl rfl inlX0 8 (by decide) zF_X0_60 rfl tyX0 tyX0_ok nmX0 rfl (by decide +kernel) (by show 8 < 9; decide) rfl hdg kk
theorem zp_X1_18 {p : Program} {l : Launch} {e : Env} {R : Room} {s : State} {mi : MethodId} {args : Array Value} {below : List Frame} {meth : Method} {c : Code} {H H0 : Heap} {locs : List Loc} {cells slots : Nat} {Q : State → Prop} {cc : ByteArray} {pc : Nat} {ls : Array Slot} {rest : List Value} {D : va_G} {cy : Nat → ClassId} {ad : ZN → Nat} {L : List ZN} {m : ZM} (C : zX p s mi args c cc RX1 D cy) (hw : zH D cy ad L H0 H locs m) {a b : Nat} (hn : (8, a, b) ∈ L) {x : Int32} (hdg : decode cc pc = .ok (.putfield 18, 3)) (kk : ∀ (H1 : Heap) (locs1 : List Loc) (m1 : ZM), m1 = zs m (8, a, b) 1 x → zH D cy ad L H0 H1 locs1 m1 → W p l e R s mi args below meth c H1 locs1 cells slots Q (F0 mi (pc + 3) ls rest)) : W p l e R s mi args below meth c H locs cells slots Q (F0 mi pc ls (.int x :: .ref (ad (8, a, b)) :: rest)) := zput (n := (8, a, b)) C hw hn rfl rfl inlX1 1 (by decide) zF_X1_18 rfl tyX1 tyX1_ok nmX1 rfl (by decide +kernel) (by show 1 < 3; decide) rfl hdg kk
theorem zp_X1_28 {p : Program} {l : Launch} {e : Env} {R : Room} {s : State} {mi : MethodId} {args : Array Value} {below : List Frame} {meth : Method} {c : Code} {H H0 : Heap} {locs : List Loc} {cells slots : Nat} {Q : State → Prop} {cc : ByteArray} {pc : Nat} {ls : Array Slot} {rest : List Value} {D : va_G} {cy : Nat → ClassId} {ad : ZN → Nat} {L : List ZN} {m : ZM} (C : zX p s mi args c cc RX1 D cy) (hw : zH D cy ad L H0 H locs m) {a b : Nat} (hn : (8, a, b) ∈ L) {x : Int32} (hdg : decode cc pc = .ok (.putfield 28, 3)) (kk : ∀ (H1 : Heap) (locs1 : List Loc) (m1 : ZM), m1 = zs m (8, a, b) 2 x → zH D cy ad L H0 H1 locs1 m1 → W p l e R s mi args below meth c H1 locs1 cells slots Q (F0 mi (pc + 3) ls rest)) : W p l e R s mi args below meth c H locs cells slots Q (F0 mi pc ls (.int x :: .ref (ad (8, a, b)) :: rest)) := zput (n := (8, a, b)) C hw hn rfl rfl inlX1 2 (by decide) zF_X1_28 rfl tyX1 tyX1_ok nmX1 rfl (by decide +kernel) (by show 2 < 3; decide) rfl hdg kk
theorem zp_X1_45 {p : Program} {l : Launch} {e : Env} {R : Room} {s : State} {mi : MethodId} {args : Array Value} {below : List Frame} {meth : Method} {c : Code} {H H0 : Heap} {locs : List Loc} {cells slots : Nat} {Q : State → Prop} {cc : ByteArray} {pc : Nat} {ls : Array Slot} {rest : List Value} {D : va_G} {cy : Nat → ClassId} {ad : ZN → Nat} {L : List ZN} {m : ZM} (C : zX p s mi args c cc RX1 D cy) (hw : zH D cy ad L H0 H locs m) {a b : Nat} (hn : (10, a, b) ∈ L) {x : Int32} (hdg : decode cc pc = .ok (.putfield 45, 3)) (kk : ∀ (H1 : Heap) (locs1 : List Loc) (m1 : ZM), m1 = zs m (10, a, b) 1 x → zH D cy ad L H0 H1 locs1 m1 → W p l e R s mi args below meth c H1 locs1 cells slots Q (F0 mi (pc + 3) ls rest)) : W p l e R s mi args below meth c H locs cells slots Q (F0 mi pc ls (.int x :: .ref (ad (10, a, b)) :: rest)) := zput (n := (10, a, b)) C hw hn rfl rfl inlX2 1 (by decide) zF_X1_45 rfl tyX2 tyX2_ok nmX2 rfl (by decide +kernel) (by show 1 < 2; decide) rfl hdg kk
theorem zp_X2_16 {p : Program} {l : Launch} {e : Env} {R : Room} {s : State} {mi : MethodId} {args : Array Value} {below : List Frame} {meth : Method} {c : Code} {H H0 : Heap} {locs : List Loc} {cells slots : Nat} {Q : State → Prop} {cc : ByteArray} {pc : Nat} {ls : Array Slot} {rest : List Value} {D : va_G} {cy : Nat → ClassId} {ad : ZN → Nat} {L : List ZN} {m : ZM} (C : zX p s mi args c cc RX2 D cy) (hw : zH D cy ad L H0 H locs m) {a b : Nat} (hn : (10, a, b) ∈ L) {x : Int32} (hdg : decode cc pc = .ok (.putfield 16, 3)) (kk : ∀ (H1 : Heap) (locs1 : List Loc) (m1 : ZM), m1 = zs m (10, a, b) 1 x → zH D cy ad L H0 H1 locs1 m1 → W p l e R s mi args below meth c H1 locs1 cells slots Q (F0 mi (pc + 3) ls rest)) : W p l e R s mi args below meth c H locs cells slots Q (F0 mi pc ls (.int x :: .ref (ad (10, a, b)) :: rest)) := zput (n := (10, a, b)) C hw hn rfl rfl inlX2 1 (by decide) zF_X2_16 rfl tyX2 tyX2_ok nmX2 rfl (by decide +kernel) (by show 1 < 2; decide) rfl hdg kk
theorem zp_X3_7 {p : Program} {l : Launch} {e : Env} {R : Room} {s : State} {mi : MethodId} {args : Array Value} {below : List Frame} {meth : Method} {c : Code} {H H0 : Heap} {locs : List Loc} {cells slots : Nat} {Q : State → Prop} {cc : ByteArray} {pc : Nat} {ls : Array Slot} {rest : List Value} {D : va_G} {cy : Nat → ClassId} {ad : ZN → Nat} {L : List ZN} {m : ZM} (C : zX p s mi args c cc RX3 D cy) (hw : zH D cy ad L H0 H locs m) {a b : Nat} (hn : (7, a, b) ∈ L) {x : Int32} (hdg : decode cc pc = .ok (.putfield 7, 3)) (kk : ∀ (H1 : Heap) (locs1 : List Loc) (m1 : ZM), m1 = zs m (7, a, b) 0 x → zH D cy ad L H0 H1 locs1 m1 → W p l e R s mi args below meth c H1 locs1 cells slots Q (F0 mi (pc + 3) ls rest)) : W p l e R s mi args below meth c H locs cells slots Q (F0 mi pc ls (.int x :: .ref (ad (7, a, b)) :: rest)) := zput (n := (7, a, b)) C hw hn rfl rfl inlX3 0 (by decide) zF_X3_7 rfl tyX3 tyX3_ok nmX3 rfl (by decide +kernel) (by show 0 < 2; decide) rfl hdg kk
theorem zp_X3_13 {p : Program} {l : Launch} {e : Env} {R : Room} {s : State} {mi : MethodId} {args : Array Value} {below : List Frame} {meth : Method} {c : Code} {H H0 : Heap} {locs : List Loc} {cells slots : Nat} {Q : State → Prop} {cc : ByteArray} {pc : Nat} {ls : Array Slot} {rest : List Value} {D : va_G} {cy : Nat → ClassId} {ad : ZN → Nat} {L : List ZN} {m : ZM} (C : zX p s mi args c cc RX3 D cy) (hw : zH D cy ad L H0 H locs m) {a b : Nat} (hn : (7, a, b) ∈ L) {x : Int32} (hdg : decode cc pc = .ok (.putfield 13, 3)) (kk : ∀ (H1 : Heap) (locs1 : List Loc) (m1 : ZM), m1 = zs m (7, a, b) 1 x → zH D cy ad L H0 H1 locs1 m1 → W p l e R s mi args below meth c H1 locs1 cells slots Q (F0 mi (pc + 3) ls rest)) : W p l e R s mi args below meth c H locs cells slots Q (F0 mi pc ls (.int x :: .ref (ad (7, a, b)) :: rest)) := zput (n := (7, a, b)) C hw hn rfl rfl inlX3 1 (by decide) zF_X3_13 rfl tyX3 tyX3_ok nmX3 rfl (by decide +kernel) (by show 1 < 2; decide) rfl hdg kk
theorem zp_X4_9 {p : Program} {l : Launch} {e : Env} {R : Room} {s : State} {mi : MethodId} {args : Array Value} {below : List Frame} {meth : Method} {c : Code} {H H0 : Heap} {locs : List Loc} {cells slots : Nat} {Q : State → Prop} {cc : ByteArray} {pc : Nat} {ls : Array Slot} {rest : List Value} {D : va_G} {cy : Nat → ClassId} {ad : ZN → Nat} {L : List ZN} {m : ZM} (C : zX p s mi args c cc RX4 D cy) (hw : zH D cy ad L H0 H locs m) {a b : Nat} (hn : (6, a, b) ∈ L) {x : Int32} (hdg : decode cc pc = .ok (.putfield 9, 3)) (kk : ∀ (H1 : Heap) (locs1 : List Loc) (m1 : ZM), m1 = zs m (6, a, b) 0 x → zH D cy ad L H0 H1 locs1 m1 → W p l e R s mi args below meth c H1 locs1 cells slots Q (F0 mi (pc + 3) ls rest)) : W p l e R s mi args below meth c H locs cells slots Q (F0 mi pc ls (.int x :: .ref (ad (6, a, b)) :: rest)) := zput (n := (6, a, b)) C hw hn rfl rfl inlX4 0 (by decide) zF_X4_9 rfl tyX4 tyX4_ok nmX4 rfl (by decide +kernel) (by show 0 < 3; decide) rfl hdg kk
theorem zp_X4_15 {p : Program} {l : Launch} {e : Env} {R : Room} {s : State} {mi : MethodId} {args : Array Value} {below : List Frame} {meth : Method} {c : Code} {H H0 : Heap} {locs : List Loc} {cells slots : Nat} {Q : State → Prop} {cc : ByteArray} {pc : Nat} {ls : Array Slot} {rest : List Value} {D : va_G} {cy : Nat → ClassId} {ad : ZN → Nat} {L : List ZN} {m : ZM} (C : zX p s mi args c cc RX4 D cy) (hw : zH D cy ad L H0 H locs m) {a b : Nat} (hn : (6, a, b) ∈ L) {x : Int32} (hdg : decode cc pc = .ok (.putfield 15, 3)) (kk : ∀ (H1 : Heap) (locs1 : List Loc) (m1 : ZM), m1 = zs m (6, a, b) 1 x → zH D cy ad L H0 H1 locs1 m1 → W p l e R s mi args below meth c H1 locs1 cells slots Q (F0 mi (pc + 3) ls rest)) : W p l e R s mi args below meth c H locs cells slots Q (F0 mi pc ls (.int x :: .ref (ad (6, a, b)) :: rest)) := zput (n := (6, a, b)) C hw hn rfl rfl inlX4 1 (by decide) zF_X4_15 rfl tyX4 tyX4_ok nmX4 rfl (by decide +kernel) (by show 1 < 3; decide) rfl hdg kk
theorem zp_X4_18 {p : Program} {l : Launch} {e : Env} {R : Room} {s : State} {mi : MethodId} {args : Array Value} {below : List Frame} {meth : Method} {c : Code} {H H0 : Heap} {locs : List Loc} {cells slots : Nat} {Q : State → Prop} {cc : ByteArray} {pc : Nat} {ls : Array Slot} {rest : List Value} {D : va_G} {cy : Nat → ClassId} {ad : ZN → Nat} {L : List ZN} {m : ZM} (C : zX p s mi args c cc RX4 D cy) (hw : zH D cy ad L H0 H locs m) {a b : Nat} (hn : (6, a, b) ∈ L) {x : Int32} (hdg : decode cc pc = .ok (.putfield 18, 3)) (kk : ∀ (H1 : Heap) (locs1 : List Loc) (m1 : ZM), m1 = zs m (6, a, b) 2 x → zH D cy ad L H0 H1 locs1 m1 → W p l e R s mi args below meth c H1 locs1 cells slots Q (F0 mi (pc + 3) ls rest)) : W p l e R s mi args below meth c H locs cells slots Q (F0 mi pc ls (.int x :: .ref (ad (6, a, b)) :: rest)) := zput (n := (6, a, b)) C hw hn rfl rfl inlX4 2 (by decide) zF_X4_18 rfl tyX4 tyX4_ok nmX4 rfl (by decide +kernel) (by show 2 < 3; decide) rfl hdg kk
theorem zp_X5_43 {p : Program} {l : Launch} {e : Env} {R : Room} {s : State} {mi : MethodId} {args : Array Value} {below : List Frame} {meth : Method} {c : Code} {H H0 : Heap} {locs : List Loc} {cells slots : Nat} {Q : State → Prop} {cc : ByteArray} {pc : Nat} {ls : Array Slot} {rest : List Value} {D : va_G} {cy : Nat → ClassId} {ad : ZN → Nat} {L : List ZN} {m : ZM} (C : zX p s mi args c cc RX5 D cy) (hw : zH D cy ad L H0 H locs m) {a b : Nat} (hn : (1, a, b) ∈ L) {x : Int32} (hdg : decode cc pc = .ok (.putfield 43, 3)) (kk : ∀ (H1 : Heap) (locs1 : List Loc) (m1 : ZM), m1 = zs m (1, a, b) 7 x → zH D cy ad L H0 H1 locs1 m1 → W p l e R s mi args below meth c H1 locs1 cells slots Q (F0 mi (pc + 3) ls rest)) : W p l e R s mi args below meth c H locs cells slots Q (F0 mi pc ls (.int x :: .ref (ad (1, a, b)) :: rest)) := zput (n := (1, a, b)) C hw hn rfl rfl inlX5 7 (by decide) zF_X5_43 rfl tyX5 tyX5_ok nmX5 rfl (by decide +kernel) (by show 7 < 12; decide) rfl hdg kk
theorem zp_X5_47 {p : Program} {l : Launch} {e : Env} {R : Room} {s : State} {mi : MethodId} {args : Array Value} {below : List Frame} {meth : Method} {c : Code} {H H0 : Heap} {locs : List Loc} {cells slots : Nat} {Q : State → Prop} {cc : ByteArray} {pc : Nat} {ls : Array Slot} {rest : List Value} {D : va_G} {cy : Nat → ClassId} {ad : ZN → Nat} {L : List ZN} {m : ZM} (C : zX p s mi args c cc RX5 D cy) (hw : zH D cy ad L H0 H locs m) {a b : Nat} (hn : (1, a, b) ∈ L) {x : Int32} (hdg : decode cc pc = .ok (.putfield 47, 3)) (kk : ∀ (H1 : Heap) (locs1 : List Loc) (m1 : ZM), m1 = zs m (1, a, b) 8 x → zH D cy ad L H0 H1 locs1 m1 → W p l e R s mi args below meth c H1 locs1 cells slots Q (F0 mi (pc + 3) ls rest)) : W p l e R s mi args below meth c H locs cells slots Q (F0 mi pc ls (.int x :: .ref (ad (1, a, b)) :: rest)) := zput (n := (1, a, b)) C hw hn rfl rfl inlX5 8 (by decide) zF_X5_47 rfl tyX5 tyX5_ok nmX5 rfl (by decide +kernel) (by show 8 < 12; decide) rfl hdg kk
theorem zp_X5_50 {p : Program} {l : Launch} {e : Env} {R : Room} {s : State} {mi : MethodId} {args : Array Value} {below : List Frame} {meth : Method} {c : Code} {H H0 : Heap} {locs : List Loc} {cells slots : Nat} {Q : State → Prop} {cc : ByteArray} {pc : Nat} {ls : Array Slot} {rest : List Value} {D : va_G} {cy : Nat → ClassId} {ad : ZN → Nat} {L : List ZN} {m : ZM} (C : zX p s mi args c cc RX5 D cy) (hw : zH D cy ad L H0 H locs m) {a b : Nat} (hn : (1, a, b) ∈ L) {x : Int32} (hdg : decode cc pc = .ok (.putfield 50, 3)) (kk : ∀ (H1 : Heap) (locs1 : List Loc) (m1 : ZM), m1 = zs m (1, a, b) 6 x → zH D cy ad L H0 H1 locs1 m1 → W p l e R s mi args below meth c H1 locs1 cells slots Q (F0 mi (pc + 3) ls rest)) : W p l e R s mi args below meth c H locs cells slots Q (F0 mi pc ls (.int x :: .ref (ad (1, a, b)) :: rest)) := zput (n := (1, a, b)) C hw hn rfl rfl inlX5 6 (by decide) zF_X5_50 rfl tyX5 tyX5_ok nmX5 rfl (by decide +kernel) (by show 6 < 12; decide) rfl hdg kk
theorem zp_X5_53 {p : Program} {l : Launch} {e : Env} {R : Room} {s : State} {mi : MethodId} {args : Array Value} {below : List Frame} {meth : Method} {c : Code} {H H0 : Heap} {locs : List Loc} {cells slots : Nat} {Q : State → Prop} {cc : ByteArray} {pc : Nat} {ls : Array Slot} {rest : List Value} {D : va_G} {cy : Nat → ClassId} {ad : ZN → Nat} {L : List ZN} {m : ZM} (C : zX p s mi args c cc RX5 D cy) (hw : zH D cy ad L H0 H locs m) {a b : Nat} (hn : (1, a, b) ∈ L) {x : Int32} (hdg : decode cc pc = .ok (.putfield 53, 3)) (kk : ∀ (H1 : Heap) (locs1 : List Loc) (m1 : ZM), m1 = zs m (1, a, b) 9 x → zH D cy ad L H0 H1 locs1 m1 → W p l e R s mi args below meth c H1 locs1 cells slots Q (F0 mi (pc + 3) ls rest)) : W p l e R s mi args below meth c H locs cells slots Q (F0 mi pc ls (.int x :: .ref (ad (1, a, b)) :: rest)) := zput (n := (1, a, b)) C hw hn rfl rfl inlX5 9 (by decide) zF_X5_53 rfl tyX5 tyX5_ok nmX5 rfl (by decide +kernel) (by show 9 < 12; decide) rfl hdg kk
theorem zp_X5_72 {p : Program} {l : Launch} {e : Env} {R : Room} {s : State} {mi : MethodId} {args : Array Value} {below : List Frame} {meth : Method} {c : Code} {H H0 : Heap} {locs : List Loc} {cells slots : Nat} {Q : State → Prop} {cc : ByteArray} {pc : Nat} {ls : Array Slot} {rest : List Value} {D : va_G} {cy : Nat → ClassId} {ad : ZN → Nat} {L : List ZN} {m : ZM} (C : zX p s mi args c cc RX5 D cy) (hw : zH D cy ad L H0 H locs m) {a b : Nat} (hn : (1, a, b) ∈ L) {x : Int32} (hdg : decode cc pc = .ok (.putfield 72, 3)) (kk : ∀ (H1 : Heap) (locs1 : List Loc) (m1 : ZM), m1 = zs m (1, a, b) 10 x → zH D cy ad L H0 H1 locs1 m1 → W p l e R s mi args below meth c H1 locs1 cells slots Q (F0 mi (pc + 3) ls rest)) : W p l e R s mi args below meth c H locs cells slots Q (F0 mi pc ls (.int x :: .ref (ad (1, a, b)) :: rest)) := zput (n := (1, a, b)) C hw hn rfl rfl inlX5 10 (by decide) zF_X5_72 rfl tyX5 tyX5_ok nmX5 rfl (by decide +kernel) (by show 10 < 12; decide) rfl hdg kk
theorem zp_X5_75 {p : Program} {l : Launch} {e : Env} {R : Room} {s : State} {mi : MethodId} {args : Array Value} {below : List Frame} {meth : Method} {c : Code} {H H0 : Heap} {locs : List Loc} {cells slots : Nat} {Q : State → Prop} {cc : ByteArray} {pc : Nat} {ls : Array Slot} {rest : List Value} {D : va_G} {cy : Nat → ClassId} {ad : ZN → Nat} {L : List ZN} {m : ZM} (C : zX p s mi args c cc RX5 D cy) (hw : zH D cy ad L H0 H locs m) {a b : Nat} (hn : (1, a, b) ∈ L) {x : Int32} (hdg : decode cc pc = .ok (.putfield 75, 3)) (kk : ∀ (H1 : Heap) (locs1 : List Loc) (m1 : ZM), m1 = zs m (1, a, b) 11 x → zH D cy ad L H0 H1 locs1 m1 → W p l e R s mi args below meth c H1 locs1 cells slots Q (F0 mi (pc + 3) ls rest)) : W p l e R s mi args below meth c H locs cells slots Q (F0 mi pc ls (.int x :: .ref (ad (1, a, b)) :: rest)) := zput (n := (1, a, b)) C hw hn rfl rfl inlX5 11 (by decide) zF_X5_75 rfl tyX5 tyX5_ok nmX5 rfl (by decide +kernel) (by show 11 < 12; decide) rfl hdg kk
theorem zp_X5_115 {p : Program} {l : Launch} {e : Env} {R : Room} {s : State} {mi : MethodId} {args : Array Value} {below : List Frame} {meth : Method} {c : Code} {H H0 : Heap} {locs : List Loc} {cells slots : Nat} {Q : State → Prop} {cc : ByteArray} {pc : Nat} {ls : Array Slot} {rest : List Value} {D : va_G} {cy : Nat → ClassId} {ad : ZN → Nat} {L : List ZN} {m : ZM} (C : zX p s mi args c cc RX5 D cy) (hw : zH D cy ad L H0 H locs m) {a b : Nat} (hn : (4, a, b) ∈ L) {x : Int32} (hdg : decode cc pc = .ok (.putfield 115, 3)) (kk : ∀ (H1 : Heap) (locs1 : List Loc) (m1 : ZM), m1 = zs m (4, a, b) 7 x → zH D cy ad L H0 H1 locs1 m1 → W p l e R s mi args below meth c H1 locs1 cells slots Q (F0 mi (pc + 3) ls rest)) : W p l e R s mi args below meth c H locs cells slots Q (F0 mi pc ls (.int x :: .ref (ad (4, a, b)) :: rest)) := zput (n := (4, a, b)) C hw hn rfl rfl inlX0 7 (by decide) zF_X5_115 rfl tyX0 tyX0_ok nmX0 rfl (by decide +kernel) (by show 7 < 9; decide) rfl hdg kk
theorem zp_X6_37 {p : Program} {l : Launch} {e : Env} {R : Room} {s : State} {mi : MethodId} {args : Array Value} {below : List Frame} {meth : Method} {c : Code} {H H0 : Heap} {locs : List Loc} {cells slots : Nat} {Q : State → Prop} {cc : ByteArray} {pc : Nat} {ls : Array Slot} {rest : List Value} {D : va_G} {cy : Nat → ClassId} {ad : ZN → Nat} {L : List ZN} {m : ZM} (C : zX p s mi args c cc RX6 D cy) (hw : zH D cy ad L H0 H locs m) {a b : Nat} (hn : (1, a, b) ∈ L) {x : Int32} (hdg : decode cc pc = .ok (.putfield 37, 3)) (kk : ∀ (H1 : Heap) (locs1 : List Loc) (m1 : ZM), m1 = zs m (1, a, b) 8 x → zH D cy ad L H0 H1 locs1 m1 → W p l e R s mi args below meth c H1 locs1 cells slots Q (F0 mi (pc + 3) ls rest)) : W p l e R s mi args below meth c H locs cells slots Q (F0 mi pc ls (.int x :: .ref (ad (1, a, b)) :: rest)) := zput (n := (1, a, b)) C hw hn rfl rfl inlX5 8 (by decide) zF_X6_37 rfl tyX5 tyX5_ok nmX5 rfl (by decide +kernel) (by show 8 < 12; decide) rfl hdg kk
theorem zp_X6_41 {p : Program} {l : Launch} {e : Env} {R : Room} {s : State} {mi : MethodId} {args : Array Value} {below : List Frame} {meth : Method} {c : Code} {H H0 : Heap} {locs : List Loc} {cells slots : Nat} {Q : State → Prop} {cc : ByteArray} {pc : Nat} {ls : Array Slot} {rest : List Value} {D : va_G} {cy : Nat → ClassId} {ad : ZN → Nat} {L : List ZN} {m : ZM} (C : zX p s mi args c cc RX6 D cy) (hw : zH D cy ad L H0 H locs m) {a b : Nat} (hn : (1, a, b) ∈ L) {x : Int32} (hdg : decode cc pc = .ok (.putfield 41, 3)) (kk : ∀ (H1 : Heap) (locs1 : List Loc) (m1 : ZM), m1 = zs m (1, a, b) 9 x → zH D cy ad L H0 H1 locs1 m1 → W p l e R s mi args below meth c H1 locs1 cells slots Q (F0 mi (pc + 3) ls rest)) : W p l e R s mi args below meth c H locs cells slots Q (F0 mi pc ls (.int x :: .ref (ad (1, a, b)) :: rest)) := zput (n := (1, a, b)) C hw hn rfl rfl inlX5 9 (by decide) zF_X6_41 rfl tyX5 tyX5_ok nmX5 rfl (by decide +kernel) (by show 9 < 12; decide) rfl hdg kk
theorem zp_X6_74 {p : Program} {l : Launch} {e : Env} {R : Room} {s : State} {mi : MethodId} {args : Array Value} {below : List Frame} {meth : Method} {c : Code} {H H0 : Heap} {locs : List Loc} {cells slots : Nat} {Q : State → Prop} {cc : ByteArray} {pc : Nat} {ls : Array Slot} {rest : List Value} {D : va_G} {cy : Nat → ClassId} {ad : ZN → Nat} {L : List ZN} {m : ZM} (C : zX p s mi args c cc RX6 D cy) (hw : zH D cy ad L H0 H locs m) {a b : Nat} (hn : (6, a, b) ∈ L) {x : Int32} (hdg : decode cc pc = .ok (.putfield 74, 3)) (kk : ∀ (H1 : Heap) (locs1 : List Loc) (m1 : ZM), m1 = zs m (6, a, b) 2 x → zH D cy ad L H0 H1 locs1 m1 → W p l e R s mi args below meth c H1 locs1 cells slots Q (F0 mi (pc + 3) ls rest)) : W p l e R s mi args below meth c H locs cells slots Q (F0 mi pc ls (.int x :: .ref (ad (6, a, b)) :: rest)) := zput (n := (6, a, b)) C hw hn rfl rfl inlX4 2 (by decide) zF_X6_74 rfl tyX4 tyX4_ok nmX4 rfl (by decide +kernel) (by show 2 < 3; decide) rfl hdg kk
theorem zp_X6_83 {p : Program} {l : Launch} {e : Env} {R : Room} {s : State} {mi : MethodId} {args : Array Value} {below : List Frame} {meth : Method} {c : Code} {H H0 : Heap} {locs : List Loc} {cells slots : Nat} {Q : State → Prop} {cc : ByteArray} {pc : Nat} {ls : Array Slot} {rest : List Value} {D : va_G} {cy : Nat → ClassId} {ad : ZN → Nat} {L : List ZN} {m : ZM} (C : zX p s mi args c cc RX6 D cy) (hw : zH D cy ad L H0 H locs m) {a b : Nat} (hn : (4, a, b) ∈ L) {x : Int32} (hdg : decode cc pc = .ok (.putfield 83, 3)) (kk : ∀ (H1 : Heap) (locs1 : List Loc) (m1 : ZM), m1 = zs m (4, a, b) 5 x → zH D cy ad L H0 H1 locs1 m1 → W p l e R s mi args below meth c H1 locs1 cells slots Q (F0 mi (pc + 3) ls rest)) : W p l e R s mi args below meth c H locs cells slots Q (F0 mi pc ls (.int x :: .ref (ad (4, a, b)) :: rest)) := zput (n := (4, a, b)) C hw hn rfl rfl inlX0 5 (by decide) zF_X6_83 rfl tyX0 tyX0_ok nmX0 rfl (by decide +kernel) (by show 5 < 9; decide) rfl hdg kk
theorem zp_X6_86 {p : Program} {l : Launch} {e : Env} {R : Room} {s : State} {mi : MethodId} {args : Array Value} {below : List Frame} {meth : Method} {c : Code} {H H0 : Heap} {locs : List Loc} {cells slots : Nat} {Q : State → Prop} {cc : ByteArray} {pc : Nat} {ls : Array Slot} {rest : List Value} {D : va_G} {cy : Nat → ClassId} {ad : ZN → Nat} {L : List ZN} {m : ZM} (C : zX p s mi args c cc RX6 D cy) (hw : zH D cy ad L H0 H locs m) {a b : Nat} (hn : (4, a, b) ∈ L) {x : Int32} (hdg : decode cc pc = .ok (.putfield 86, 3)) (kk : ∀ (H1 : Heap) (locs1 : List Loc) (m1 : ZM), m1 = zs m (4, a, b) 6 x → zH D cy ad L H0 H1 locs1 m1 → W p l e R s mi args below meth c H1 locs1 cells slots Q (F0 mi (pc + 3) ls rest)) : W p l e R s mi args below meth c H locs cells slots Q (F0 mi pc ls (.int x :: .ref (ad (4, a, b)) :: rest)) := zput (n := (4, a, b)) C hw hn rfl rfl inlX0 6 (by decide) zF_X6_86 rfl tyX0 tyX0_ok nmX0 rfl (by decide +kernel) (by show 6 < 9; decide) rfl hdg kk
theorem zp_X7_9 {p : Program} {l : Launch} {e : Env} {R : Room} {s : State} {mi : MethodId} {args : Array Value} {below : List Frame} {meth : Method} {c : Code} {H H0 : Heap} {locs : List Loc} {cells slots : Nat} {Q : State → Prop} {cc : ByteArray} {pc : Nat} {ls : Array Slot} {rest : List Value} {D : va_G} {cy : Nat → ClassId} {ad : ZN → Nat} {L : List ZN} {m : ZM} (C : zX p s mi args c cc RX7 D cy) (hw : zH D cy ad L H0 H locs m) {a b : Nat} (hn : (13, a, b) ∈ L) {x : Int32} (hdg : decode cc pc = .ok (.putfield 9, 3)) (kk : ∀ (H1 : Heap) (locs1 : List Loc) (m1 : ZM), m1 = zs m (13, a, b) 1 x → zH D cy ad L H0 H1 locs1 m1 → W p l e R s mi args below meth c H1 locs1 cells slots Q (F0 mi (pc + 3) ls rest)) : W p l e R s mi args below meth c H locs cells slots Q (F0 mi pc ls (.int x :: .ref (ad (13, a, b)) :: rest)) := zput (n := (13, a, b)) C hw hn rfl rfl inlX7 1 (by decide) zF_X7_9 rfl tyX7 tyX7_ok nmX7 rfl (by decide +kernel) (by show 1 < 18; decide) rfl hdg kk
theorem zp_X7_15 {p : Program} {l : Launch} {e : Env} {R : Room} {s : State} {mi : MethodId} {args : Array Value} {below : List Frame} {meth : Method} {c : Code} {H H0 : Heap} {locs : List Loc} {cells slots : Nat} {Q : State → Prop} {cc : ByteArray} {pc : Nat} {ls : Array Slot} {rest : List Value} {D : va_G} {cy : Nat → ClassId} {ad : ZN → Nat} {L : List ZN} {m : ZM} (C : zX p s mi args c cc RX7 D cy) (hw : zH D cy ad L H0 H locs m) {a b : Nat} (hn : (13, a, b) ∈ L) {x : Int32} (hdg : decode cc pc = .ok (.putfield 15, 3)) (kk : ∀ (H1 : Heap) (locs1 : List Loc) (m1 : ZM), m1 = zs m (13, a, b) 2 x → zH D cy ad L H0 H1 locs1 m1 → W p l e R s mi args below meth c H1 locs1 cells slots Q (F0 mi (pc + 3) ls rest)) : W p l e R s mi args below meth c H locs cells slots Q (F0 mi pc ls (.int x :: .ref (ad (13, a, b)) :: rest)) := zput (n := (13, a, b)) C hw hn rfl rfl inlX7 2 (by decide) zF_X7_15 rfl tyX7 tyX7_ok nmX7 rfl (by decide +kernel) (by show 2 < 18; decide) rfl hdg kk
theorem zp_X7_61 {p : Program} {l : Launch} {e : Env} {R : Room} {s : State} {mi : MethodId} {args : Array Value} {below : List Frame} {meth : Method} {c : Code} {H H0 : Heap} {locs : List Loc} {cells slots : Nat} {Q : State → Prop} {cc : ByteArray} {pc : Nat} {ls : Array Slot} {rest : List Value} {D : va_G} {cy : Nat → ClassId} {ad : ZN → Nat} {L : List ZN} {m : ZM} (C : zX p s mi args c cc RX7 D cy) (hw : zH D cy ad L H0 H locs m) {a b : Nat} (hn : (13, a, b) ∈ L) {x : Int32} (hdg : decode cc pc = .ok (.putfield 61, 3)) (kk : ∀ (H1 : Heap) (locs1 : List Loc) (m1 : ZM), m1 = zs m (13, a, b) 0 x → zH D cy ad L H0 H1 locs1 m1 → W p l e R s mi args below meth c H1 locs1 cells slots Q (F0 mi (pc + 3) ls rest)) : W p l e R s mi args below meth c H locs cells slots Q (F0 mi pc ls (.int x :: .ref (ad (13, a, b)) :: rest)) := zput (n := (13, a, b)) C hw hn rfl rfl inlX7 0 (by decide) zF_X7_61 rfl tyX7 tyX7_ok nmX7 rfl (by decide +kernel) (by show 0 < 18; decide) rfl hdg kk
theorem zp_X7_64 {p : Program} {l : Launch} {e : Env} {R : Room} {s : State} {mi : MethodId} {args : Array Value} {below : List Frame} {meth : Method} {c : Code} {H H0 : Heap} {locs : List Loc} {cells slots : Nat} {Q : State → Prop} {cc : ByteArray} {pc : Nat} {ls : Array Slot} {rest : List Value} {D : va_G} {cy : Nat → ClassId} {ad : ZN → Nat} {L : List ZN} {m : ZM} (C : zX p s mi args c cc RX7 D cy) (hw : zH D cy ad L H0 H locs m) {a b : Nat} (hn : (13, a, b) ∈ L) {x : Int32} (hdg : decode cc pc = .ok (.putfield 64, 3)) (kk : ∀ (H1 : Heap) (locs1 : List Loc) (m1 : ZM), m1 = zs m (13, a, b) 4 x → zH D cy ad L H0 H1 locs1 m1 → W p l e R s mi args below meth c H1 locs1 cells slots Q (F0 mi (pc + 3) ls rest)) : W p l e R s mi args below meth c H locs cells slots Q (F0 mi pc ls (.int x :: .ref (ad (13, a, b)) :: rest)) := zput (n := (13, a, b)) C hw hn rfl rfl inlX7 4 (by decide) zF_X7_64 rfl tyX7 tyX7_ok nmX7 rfl (by decide +kernel) (by show 4 < 18; decide) rfl hdg kk
theorem zp_X7_67 {p : Program} {l : Launch} {e : Env} {R : Room} {s : State} {mi : MethodId} {args : Array Value} {below : List Frame} {meth : Method} {c : Code} {H H0 : Heap} {locs : List Loc} {cells slots : Nat} {Q : State → Prop} {cc : ByteArray} {pc : Nat} {ls : Array Slot} {rest : List Value} {D : va_G} {cy : Nat → ClassId} {ad : ZN → Nat} {L : List ZN} {m : ZM} (C : zX p s mi args c cc RX7 D cy) (hw : zH D cy ad L H0 H locs m) {a b : Nat} (hn : (13, a, b) ∈ L) {x : Int32} (hdg : decode cc pc = .ok (.putfield 67, 3)) (kk : ∀ (H1 : Heap) (locs1 : List Loc) (m1 : ZM), m1 = zs m (13, a, b) 14 x → zH D cy ad L H0 H1 locs1 m1 → W p l e R s mi args below meth c H1 locs1 cells slots Q (F0 mi (pc + 3) ls rest)) : W p l e R s mi args below meth c H locs cells slots Q (F0 mi pc ls (.int x :: .ref (ad (13, a, b)) :: rest)) := zput (n := (13, a, b)) C hw hn rfl rfl inlX7 14 (by decide) zF_X7_67 rfl tyX7 tyX7_ok nmX7 rfl (by decide +kernel) (by show 14 < 18; decide) rfl hdg kk
theorem zp_X7_70 {p : Program} {l : Launch} {e : Env} {R : Room} {s : State} {mi : MethodId} {args : Array Value} {below : List Frame} {meth : Method} {c : Code} {H H0 : Heap} {locs : List Loc} {cells slots : Nat} {Q : State → Prop} {cc : ByteArray} {pc : Nat} {ls : Array Slot} {rest : List Value} {D : va_G} {cy : Nat → ClassId} {ad : ZN → Nat} {L : List ZN} {m : ZM} (C : zX p s mi args c cc RX7 D cy) (hw : zH D cy ad L H0 H locs m) {a b : Nat} (hn : (13, a, b) ∈ L) {x : Int32} (hdg : decode cc pc = .ok (.putfield 70, 3)) (kk : ∀ (H1 : Heap) (locs1 : List Loc) (m1 : ZM), m1 = zs m (13, a, b) 17 x → zH D cy ad L H0 H1 locs1 m1 → W p l e R s mi args below meth c H1 locs1 cells slots Q (F0 mi (pc + 3) ls rest)) : W p l e R s mi args below meth c H locs cells slots Q (F0 mi pc ls (.int x :: .ref (ad (13, a, b)) :: rest)) := zput (n := (13, a, b)) C hw hn rfl rfl inlX7 17 (by decide) zF_X7_70 rfl tyX7 tyX7_ok nmX7 rfl (by decide +kernel) (by show 17 < 18; decide) rfl hdg kk
theorem zp_X8_23 {p : Program} {l : Launch} {e : Env} {R : Room} {s : State} {mi : MethodId} {args : Array Value} {below : List Frame} {meth : Method} {c : Code} {H H0 : Heap} {locs : List Loc} {cells slots : Nat} {Q : State → Prop} {cc : ByteArray} {pc : Nat} {ls : Array Slot} {rest : List Value} {D : va_G} {cy : Nat → ClassId} {ad : ZN → Nat} {L : List ZN} {m : ZM} (C : zX p s mi args c cc RX8 D cy) (hw : zH D cy ad L H0 H locs m) {a b : Nat} (hn : (12, a, b) ∈ L) {x : Int32} (hdg : decode cc pc = .ok (.putfield 23, 3)) (kk : ∀ (H1 : Heap) (locs1 : List Loc) (m1 : ZM), m1 = zs m (12, a, b) 0 x → zH D cy ad L H0 H1 locs1 m1 → W p l e R s mi args below meth c H1 locs1 cells slots Q (F0 mi (pc + 3) ls rest)) : W p l e R s mi args below meth c H locs cells slots Q (F0 mi pc ls (.int x :: .ref (ad (12, a, b)) :: rest)) := zput (n := (12, a, b)) C hw hn rfl rfl inlX8 0 (by decide) zF_X8_23 rfl tyX8 tyX8_ok nmX8 rfl (by decide +kernel) (by show 0 < 7; decide) rfl hdg kk
theorem zp_X8_38 {p : Program} {l : Launch} {e : Env} {R : Room} {s : State} {mi : MethodId} {args : Array Value} {below : List Frame} {meth : Method} {c : Code} {H H0 : Heap} {locs : List Loc} {cells slots : Nat} {Q : State → Prop} {cc : ByteArray} {pc : Nat} {ls : Array Slot} {rest : List Value} {D : va_G} {cy : Nat → ClassId} {ad : ZN → Nat} {L : List ZN} {m : ZM} (C : zX p s mi args c cc RX8 D cy) (hw : zH D cy ad L H0 H locs m) {a b : Nat} (hn : (13, a, b) ∈ L) {x : Int32} (hdg : decode cc pc = .ok (.putfield 38, 3)) (kk : ∀ (H1 : Heap) (locs1 : List Loc) (m1 : ZM), m1 = zs m (13, a, b) 2 x → zH D cy ad L H0 H1 locs1 m1 → W p l e R s mi args below meth c H1 locs1 cells slots Q (F0 mi (pc + 3) ls rest)) : W p l e R s mi args below meth c H locs cells slots Q (F0 mi pc ls (.int x :: .ref (ad (13, a, b)) :: rest)) := zputN (n := (13, a, b)) C hw hn rfl rfl inlX7 2 (by decide) (znest_at 2 rfl) rfl tyX7 tyX7_ok nmX7 rfl (by decide +kernel) (by show 2 < 18; decide) rfl hdg kk
theorem zp_X8_41 {p : Program} {l : Launch} {e : Env} {R : Room} {s : State} {mi : MethodId} {args : Array Value} {below : List Frame} {meth : Method} {c : Code} {H H0 : Heap} {locs : List Loc} {cells slots : Nat} {Q : State → Prop} {cc : ByteArray} {pc : Nat} {ls : Array Slot} {rest : List Value} {D : va_G} {cy : Nat → ClassId} {ad : ZN → Nat} {L : List ZN} {m : ZM} (C : zX p s mi args c cc RX8 D cy) (hw : zH D cy ad L H0 H locs m) {a b : Nat} (hn : (13, a, b) ∈ L) {x : Int32} (hdg : decode cc pc = .ok (.putfield 41, 3)) (kk : ∀ (H1 : Heap) (locs1 : List Loc) (m1 : ZM), m1 = zs m (13, a, b) 4 x → zH D cy ad L H0 H1 locs1 m1 → W p l e R s mi args below meth c H1 locs1 cells slots Q (F0 mi (pc + 3) ls rest)) : W p l e R s mi args below meth c H locs cells slots Q (F0 mi pc ls (.int x :: .ref (ad (13, a, b)) :: rest)) := zputN (n := (13, a, b)) C hw hn rfl rfl inlX7 4 (by decide) (znest_at 4 rfl) rfl tyX7 tyX7_ok nmX7 rfl (by decide +kernel) (by show 4 < 18; decide) rfl hdg kk
theorem zp_X8_112 {p : Program} {l : Launch} {e : Env} {R : Room} {s : State} {mi : MethodId} {args : Array Value} {below : List Frame} {meth : Method} {c : Code} {H H0 : Heap} {locs : List Loc} {cells slots : Nat} {Q : State → Prop} {cc : ByteArray} {pc : Nat} {ls : Array Slot} {rest : List Value} {D : va_G} {cy : Nat → ClassId} {ad : ZN → Nat} {L : List ZN} {m : ZM} (C : zX p s mi args c cc RX8 D cy) (hw : zH D cy ad L H0 H locs m) {a b : Nat} (hn : (12, a, b) ∈ L) {x : Int32} (hdg : decode cc pc = .ok (.putfield 112, 3)) (kk : ∀ (H1 : Heap) (locs1 : List Loc) (m1 : ZM), m1 = zs m (12, a, b) 5 x → zH D cy ad L H0 H1 locs1 m1 → W p l e R s mi args below meth c H1 locs1 cells slots Q (F0 mi (pc + 3) ls rest)) : W p l e R s mi args below meth c H locs cells slots Q (F0 mi pc ls (.int x :: .ref (ad (12, a, b)) :: rest)) := zput (n := (12, a, b)) C hw hn rfl rfl inlX8 5 (by decide) zF_X8_112 rfl tyX8 tyX8_ok nmX8 rfl (by decide +kernel) (by show 5 < 7; decide) rfl hdg kk
theorem zp_X8_115 {p : Program} {l : Launch} {e : Env} {R : Room} {s : State} {mi : MethodId} {args : Array Value} {below : List Frame} {meth : Method} {c : Code} {H H0 : Heap} {locs : List Loc} {cells slots : Nat} {Q : State → Prop} {cc : ByteArray} {pc : Nat} {ls : Array Slot} {rest : List Value} {D : va_G} {cy : Nat → ClassId} {ad : ZN → Nat} {L : List ZN} {m : ZM} (C : zX p s mi args c cc RX8 D cy) (hw : zH D cy ad L H0 H locs m) {a b : Nat} (hn : (12, a, b) ∈ L) {x : Int32} (hdg : decode cc pc = .ok (.putfield 115, 3)) (kk : ∀ (H1 : Heap) (locs1 : List Loc) (m1 : ZM), m1 = zs m (12, a, b) 4 x → zH D cy ad L H0 H1 locs1 m1 → W p l e R s mi args below meth c H1 locs1 cells slots Q (F0 mi (pc + 3) ls rest)) : W p l e R s mi args below meth c H locs cells slots Q (F0 mi pc ls (.int x :: .ref (ad (12, a, b)) :: rest)) := zput (n := (12, a, b)) C hw hn rfl rfl inlX8 4 (by decide) zF_X8_115 rfl tyX8 tyX8_ok nmX8 rfl (by decide +kernel) (by show 4 < 7; decide) rfl hdg kk
theorem zp_X8_118 {p : Program} {l : Launch} {e : Env} {R : Room} {s : State} {mi : MethodId} {args : Array Value} {below : List Frame} {meth : Method} {c : Code} {H H0 : Heap} {locs : List Loc} {cells slots : Nat} {Q : State → Prop} {cc : ByteArray} {pc : Nat} {ls : Array Slot} {rest : List Value} {D : va_G} {cy : Nat → ClassId} {ad : ZN → Nat} {L : List ZN} {m : ZM} (C : zX p s mi args c cc RX8 D cy) (hw : zH D cy ad L H0 H locs m) {a b : Nat} (hn : (12, a, b) ∈ L) {x : Int32} (hdg : decode cc pc = .ok (.putfield 118, 3)) (kk : ∀ (H1 : Heap) (locs1 : List Loc) (m1 : ZM), m1 = zs m (12, a, b) 6 x → zH D cy ad L H0 H1 locs1 m1 → W p l e R s mi args below meth c H1 locs1 cells slots Q (F0 mi (pc + 3) ls rest)) : W p l e R s mi args below meth c H locs cells slots Q (F0 mi pc ls (.int x :: .ref (ad (12, a, b)) :: rest)) := zput (n := (12, a, b)) C hw hn rfl rfl inlX8 6 (by decide) zF_X8_118 rfl tyX8 tyX8_ok nmX8 rfl (by decide +kernel) (by show 6 < 7; decide) rfl hdg kk
theorem zgw {w : Cond} (h : w ∈ wsL_law) : w ∈ wsL_law ∧ ((w.onTables && w.keeps) = true ∨ ∃ ty, w = .arrayClass ty) := ⟨h, good_of_word (zgood w h)⟩
theorem zgv {own Cn : String} {idx : Nat} {y : MethodName} {b : ByteArray} {maxL : Nat} {ret : Option FieldType} (h1 : Cond.methodLink own idx y ∈ wsL_law) (h2 : Cond.instanceMethod y ∈ wsL_law) (h3 : Cond.selects Cn y y ∈ wsL_law) (h4 : Cond.initialized Cn ∈ wsL_law) (h5 : Cond.code y b maxL ret ∈ wsL_law) : GoodIn wsL_law (wsV own idx Cn y (zws y b maxL ret)) := by
  intro w hw
  simp only [wsV, zws, List.mem_append, List.mem_cons, List.not_mem_nil, or_false] at hw
  rcases hw with (rfl | rfl | rfl | rfl) | rfl | h
  · exact zgw h1
  · exact zgw h2
  · exact zgw h3
  · exact zgw h4
  · exact zgw h5
  · exact zgw h
theorem zgs {own : String} {idx : Nat} {y : MethodName} {b : ByteArray} {maxL : Nat} {ret : Option FieldType} (h1 : Cond.methodLink own idx y ∈ wsL_law) (h2 : Cond.static y ∈ wsL_law) (h4 : Cond.initialized y.cls ∈ wsL_law) (h5 : Cond.code y b maxL ret ∈ wsL_law) : GoodIn wsL_law (va_wsS own idx y (zws y b maxL ret)) := by
  intro w hw
  simp only [va_wsS, zws, List.mem_append, List.mem_cons, List.not_mem_nil, or_false] at hw
  rcases hw with (rfl | rfl | rfl) | rfl | h
  · exact zgw h1
  · exact zgw h2
  · exact zgw h4
  · exact zgw h5
  · exact zgw h
theorem zgc {y : MethodName} {b : ByteArray} {maxL : Nat} {ret : Option FieldType} (h5 : Cond.code y b maxL ret ∈ wsL_law) : GoodIn wsL_law (zws y b maxL ret) := by
  intro w hw
  rcases List.mem_cons.mp hw with rfl | h
  · exact zgw h5
  · exact zgw h
theorem zL_L_7 : Cond.methodLink RL 7 yX6_setInflow ∈ wsL_law := zr_5 _ (List.mem_of_getElem? (i := 12) rfl)
theorem zO_X6_setInflow : Cond.code yX6_setInflow cX6_setInflow 4 (some .int) ∈ wsL_law := zr_5 _ (List.mem_of_getElem? (i := 15) rfl)
theorem zI_X6_setInflow : Cond.instanceMethod yX6_setInflow ∈ wsL_law := zr_5 _ (List.mem_of_getElem? (i := 13) rfl)
theorem zS_X6_setInflow : Cond.selects RX6 yX6_setInflow yX6_setInflow ∈ wsL_law := zr_5 _ (List.mem_of_getElem? (i := 14) rfl)
theorem zN_X6 : Cond.initialized RX6 ∈ wsL_law := zr_1 _ (List.mem_of_getElem? (i := 2) rfl)
theorem zv_L_7 : zGV RL 7 RX6 yX6_setInflow cX6_setInflow 4 (some .int) 2 := ⟨zgv zL_L_7 zI_X6_setInflow zS_X6_setInflow zN_X6 zO_X6_setInflow, by decide +kernel⟩
theorem zL_L_17 : Cond.methodLink RL 17 yX6_setSluice ∈ wsL_law := zr_6 _ (List.mem_of_getElem? (i := 16) rfl)
theorem zO_X6_setSluice : Cond.code yX6_setSluice cX6_setSluice 3 (some .int) ∈ wsL_law := zr_6 _ (List.mem_of_getElem? (i := 19) rfl)
theorem zI_X6_setSluice : Cond.instanceMethod yX6_setSluice ∈ wsL_law := zr_6 _ (List.mem_of_getElem? (i := 17) rfl)
theorem zS_X6_setSluice : Cond.selects RX6 yX6_setSluice yX6_setSluice ∈ wsL_law := zr_6 _ (List.mem_of_getElem? (i := 18) rfl)
theorem zv_L_17 : zGV RL 17 RX6 yX6_setSluice cX6_setSluice 3 (some .int) 1 := ⟨zgv zL_L_17 zI_X6_setSluice zS_X6_setSluice zN_X6 zO_X6_setSluice, by decide +kernel⟩
theorem zL_L_21 : Cond.methodLink RL 21 yX6_addBox ∈ wsL_law := zr_7 _ (List.mem_of_getElem? (i := 5) rfl)
theorem zO_X6_addBox : Cond.code yX6_addBox cX6_addBox 1 (some .int) ∈ wsL_law := zr_7 _ (List.mem_of_getElem? (i := 8) rfl)
theorem zI_X6_addBox : Cond.instanceMethod yX6_addBox ∈ wsL_law := zr_7 _ (List.mem_of_getElem? (i := 6) rfl)
theorem zS_X6_addBox : Cond.selects RX6 yX6_addBox yX6_addBox ∈ wsL_law := zr_7 _ (List.mem_of_getElem? (i := 7) rfl)
theorem zv_L_21 : zGV RL 21 RX6 yX6_addBox cX6_addBox 1 (some .int) 0 := ⟨zgv zL_L_21 zI_X6_addBox zS_X6_addBox zN_X6 zO_X6_addBox, by decide +kernel⟩
theorem zL_L_27 : Cond.methodLink RL 27 yX6_hang ∈ wsL_law := zr_7 _ (List.mem_of_getElem? (i := 19) rfl)
theorem zO_X6_hang : Cond.code yX6_hang cX6_hang 5 (some .int) ∈ wsL_law := zr_7 _ (List.mem_of_getElem? (i := 22) rfl)
theorem zI_X6_hang : Cond.instanceMethod yX6_hang ∈ wsL_law := zr_7 _ (List.mem_of_getElem? (i := 20) rfl)
theorem zS_X6_hang : Cond.selects RX6 yX6_hang yX6_hang ∈ wsL_law := zr_7 _ (List.mem_of_getElem? (i := 21) rfl)
theorem zv_L_27 : zGV RL 27 RX6 yX6_hang cX6_hang 5 (some .int) 3 := ⟨zgv zL_L_27 zI_X6_hang zS_X6_hang zN_X6 zO_X6_hang, by decide +kernel⟩
theorem zL_L_31 : Cond.methodLink RL 31 yX6_shoe ∈ wsL_law := zr_8 _ (List.mem_of_getElem? (i := 23) rfl)
theorem zO_X6_shoe : Cond.code yX6_shoe cX6_shoe 5 (some .int) ∈ wsL_law := zr_9 _ (List.mem_of_getElem? (i := 2) rfl)
theorem zI_X6_shoe : Cond.instanceMethod yX6_shoe ∈ wsL_law := zr_9 _ (List.mem_of_getElem? (i := 0) rfl)
theorem zS_X6_shoe : Cond.selects RX6 yX6_shoe yX6_shoe ∈ wsL_law := zr_9 _ (List.mem_of_getElem? (i := 1) rfl)
theorem zv_L_31 : zGV RL 31 RX6 yX6_shoe cX6_shoe 5 (some .int) 2 := ⟨zgv zL_L_31 zI_X6_shoe zS_X6_shoe zN_X6 zO_X6_shoe, by decide +kernel⟩
theorem zL_L_34 : Cond.methodLink RL 34 yX6_setBox ∈ wsL_law := zr_9 _ (List.mem_of_getElem? (i := 12) rfl)
theorem zO_X6_setBox : Cond.code yX6_setBox cX6_setBox 6 (some .int) ∈ wsL_law := zr_9 _ (List.mem_of_getElem? (i := 15) rfl)
theorem zI_X6_setBox : Cond.instanceMethod yX6_setBox ∈ wsL_law := zr_9 _ (List.mem_of_getElem? (i := 13) rfl)
theorem zS_X6_setBox : Cond.selects RX6 yX6_setBox yX6_setBox ∈ wsL_law := zr_9 _ (List.mem_of_getElem? (i := 14) rfl)
theorem zv_L_34 : zGV RL 34 RX6 yX6_setBox cX6_setBox 6 (some .int) 3 := ⟨zgv zL_L_34 zI_X6_setBox zS_X6_setBox zN_X6 zO_X6_setBox, by decide +kernel⟩
theorem zL_L_37 : Cond.methodLink RL 37 yX6_box ∈ wsL_law := zr_10 _ (List.mem_of_getElem? (i := 1) rfl)
theorem zO_X6_box : Cond.code yX6_box cX6_box 4 (some .int) ∈ wsL_law := zr_10 _ (List.mem_of_getElem? (i := 4) rfl)
theorem zI_X6_box : Cond.instanceMethod yX6_box ∈ wsL_law := zr_10 _ (List.mem_of_getElem? (i := 2) rfl)
theorem zS_X6_box : Cond.selects RX6 yX6_box yX6_box ∈ wsL_law := zr_10 _ (List.mem_of_getElem? (i := 3) rfl)
theorem zv_L_37 : zGV RL 37 RX6 yX6_box cX6_box 4 (some .int) 2 := ⟨zgv zL_L_37 zI_X6_box zS_X6_box zN_X6 zO_X6_box, by decide +kernel⟩
theorem zL_L_40 : Cond.methodLink RL 40 yX6_bring ∈ wsL_law := zr_11 _ (List.mem_of_getElem? (i := 5) rfl)
theorem zO_X6_bring : Cond.code yX6_bring cX6_bring 5 (some .int) ∈ wsL_law := zr_11 _ (List.mem_of_getElem? (i := 8) rfl)
theorem zI_X6_bring : Cond.instanceMethod yX6_bring ∈ wsL_law := zr_11 _ (List.mem_of_getElem? (i := 6) rfl)
theorem zS_X6_bring : Cond.selects RX6 yX6_bring yX6_bring ∈ wsL_law := zr_11 _ (List.mem_of_getElem? (i := 7) rfl)
theorem zv_L_40 : zGV RL 40 RX6 yX6_bring cX6_bring 5 (some .int) 3 := ⟨zgv zL_L_40 zI_X6_bring zS_X6_bring zN_X6 zO_X6_bring, by decide +kernel⟩
theorem zL_L_43 : Cond.methodLink RL 43 yX6_lot ∈ wsL_law := zr_13 _ (List.mem_of_getElem? (i := 1) rfl)
theorem zO_X6_lot : Cond.code yX6_lot cX6_lot 3 (some .int) ∈ wsL_law := zr_13 _ (List.mem_of_getElem? (i := 4) rfl)
theorem zI_X6_lot : Cond.instanceMethod yX6_lot ∈ wsL_law := zr_13 _ (List.mem_of_getElem? (i := 2) rfl)
theorem zS_X6_lot : Cond.selects RX6 yX6_lot yX6_lot ∈ wsL_law := zr_13 _ (List.mem_of_getElem? (i := 3) rfl)
theorem zv_L_43 : zGV RL 43 RX6 yX6_lot cX6_lot 3 (some .int) 2 := ⟨zgv zL_L_43 zI_X6_lot zS_X6_lot zN_X6 zO_X6_lot, by decide +kernel⟩
theorem zL_L_46 : Cond.methodLink RL 46 yX6_run ∈ wsL_law := zr_14 _ (List.mem_of_getElem? (i := 3) rfl)
theorem zO_X6_run : Cond.code yX6_run cX6_run 2 (some .int) ∈ wsL_law := zr_14 _ (List.mem_of_getElem? (i := 6) rfl)
theorem zI_X6_run : Cond.instanceMethod yX6_run ∈ wsL_law := zr_14 _ (List.mem_of_getElem? (i := 4) rfl)
theorem zS_X6_run : Cond.selects RX6 yX6_run yX6_run ∈ wsL_law := zr_14 _ (List.mem_of_getElem? (i := 5) rfl)
theorem zv_L_46 : zGV RL 46 RX6 yX6_run cX6_run 2 (some .int) 1 := ⟨zgv zL_L_46 zI_X6_run zS_X6_run zN_X6 zO_X6_run, by decide +kernel⟩
theorem zL_L_49 : Cond.methodLink RL 49 yX6_count ∈ wsL_law := zr_20 _ (List.mem_of_getElem? (i := 21) rfl)
theorem zO_X6_count : Cond.code yX6_count cX6_count 2 (some .int) ∈ wsL_law := zr_21 _ (List.mem_of_getElem? (i := 0) rfl)
theorem zI_X6_count : Cond.instanceMethod yX6_count ∈ wsL_law := zr_20 _ (List.mem_of_getElem? (i := 22) rfl)
theorem zS_X6_count : Cond.selects RX6 yX6_count yX6_count ∈ wsL_law := zr_20 _ (List.mem_of_getElem? (i := 23) rfl)
theorem zv_L_49 : zGV RL 49 RX6 yX6_count cX6_count 2 (some .int) 1 := ⟨zgv zL_L_49 zI_X6_count zS_X6_count zN_X6 zO_X6_count, by decide +kernel⟩
theorem zL_L_52 : Cond.methodLink RL 52 yX6_buddle ∈ wsL_law := zr_22 _ (List.mem_of_getElem? (i := 20) rfl)
theorem zO_X6_buddle : Cond.code yX6_buddle cX6_buddle 4 (some .int) ∈ wsL_law := zr_22 _ (List.mem_of_getElem? (i := 23) rfl)
theorem zI_X6_buddle : Cond.instanceMethod yX6_buddle ∈ wsL_law := zr_22 _ (List.mem_of_getElem? (i := 21) rfl)
theorem zS_X6_buddle : Cond.selects RX6 yX6_buddle yX6_buddle ∈ wsL_law := zr_22 _ (List.mem_of_getElem? (i := 22) rfl)
theorem zv_L_52 : zGV RL 52 RX6 yX6_buddle cX6_buddle 4 (some .int) 2 := ⟨zgv zL_L_52 zI_X6_buddle zS_X6_buddle zN_X6 zO_X6_buddle, by decide +kernel⟩
theorem zL_L_55 : Cond.methodLink RL 55 yX6_wash ∈ wsL_law := zr_23 _ (List.mem_of_getElem? (i := 21) rfl)
theorem zO_X6_wash : Cond.code yX6_wash cX6_wash 4 (some .int) ∈ wsL_law := zr_24 _ (List.mem_of_getElem? (i := 0) rfl)
theorem zI_X6_wash : Cond.instanceMethod yX6_wash ∈ wsL_law := zr_23 _ (List.mem_of_getElem? (i := 22) rfl)
theorem zS_X6_wash : Cond.selects RX6 yX6_wash yX6_wash ∈ wsL_law := zr_23 _ (List.mem_of_getElem? (i := 23) rfl)
theorem zv_L_55 : zGV RL 55 RX6 yX6_wash cX6_wash 4 (some .int) 2 := ⟨zgv zL_L_55 zI_X6_wash zS_X6_wash zN_X6 zO_X6_wash, by decide +kernel⟩
theorem zL_L_58 : Cond.methodLink RL 58 yX6_again ∈ wsL_law := zr_25 _ (List.mem_of_getElem? (i := 5) rfl)
theorem zO_X6_again : Cond.code yX6_again cX6_again 3 (some .int) ∈ wsL_law := zr_25 _ (List.mem_of_getElem? (i := 8) rfl)
theorem zI_X6_again : Cond.instanceMethod yX6_again ∈ wsL_law := zr_25 _ (List.mem_of_getElem? (i := 6) rfl)
theorem zS_X6_again : Cond.selects RX6 yX6_again yX6_again ∈ wsL_law := zr_25 _ (List.mem_of_getElem? (i := 7) rfl)
theorem zv_L_58 : zGV RL 58 RX6 yX6_again cX6_again 3 (some .int) 1 := ⟨zgv zL_L_58 zI_X6_again zS_X6_again zN_X6 zO_X6_again, by decide +kernel⟩
theorem zL_L_61 : Cond.methodLink RL 61 yX6_smelt ∈ wsL_law := zr_25 _ (List.mem_of_getElem? (i := 20) rfl)
theorem zO_X6_smelt : Cond.code yX6_smelt cX6_smelt 2 (some .int) ∈ wsL_law := zr_25 _ (List.mem_of_getElem? (i := 23) rfl)
theorem zI_X6_smelt : Cond.instanceMethod yX6_smelt ∈ wsL_law := zr_25 _ (List.mem_of_getElem? (i := 21) rfl)
theorem zS_X6_smelt : Cond.selects RX6 yX6_smelt yX6_smelt ∈ wsL_law := zr_25 _ (List.mem_of_getElem? (i := 22) rfl)
theorem zv_L_61 : zGV RL 61 RX6 yX6_smelt cX6_smelt 2 (some .int) 1 := ⟨zgv zL_L_61 zI_X6_smelt zS_X6_smelt zN_X6 zO_X6_smelt, by decide +kernel⟩
theorem zL_L_64 : Cond.methodLink RL 64 yX6_foresee ∈ wsL_law := zr_26 _ (List.mem_of_getElem? (i := 12) rfl)
theorem zO_X6_foresee : Cond.code yX6_foresee cX6_foresee 4 (some .int) ∈ wsL_law := zr_26 _ (List.mem_of_getElem? (i := 15) rfl)
theorem zI_X6_foresee : Cond.instanceMethod yX6_foresee ∈ wsL_law := zr_26 _ (List.mem_of_getElem? (i := 13) rfl)
theorem zS_X6_foresee : Cond.selects RX6 yX6_foresee yX6_foresee ∈ wsL_law := zr_26 _ (List.mem_of_getElem? (i := 14) rfl)
theorem zv_L_64 : zGV RL 64 RX6 yX6_foresee cX6_foresee 4 (some .int) 2 := ⟨zgv zL_L_64 zI_X6_foresee zS_X6_foresee zN_X6 zO_X6_foresee, by decide +kernel⟩
theorem zL_L_67 : Cond.methodLink RL 67 yX6_advise ∈ wsL_law := zr_29 _ (List.mem_of_getElem? (i := 1) rfl)
theorem zO_X6_advise : Cond.code yX6_advise cX6_advise 6 (some .int) ∈ wsL_law := zr_29 _ (List.mem_of_getElem? (i := 4) rfl)
theorem zI_X6_advise : Cond.instanceMethod yX6_advise ∈ wsL_law := zr_29 _ (List.mem_of_getElem? (i := 2) rfl)
theorem zS_X6_advise : Cond.selects RX6 yX6_advise yX6_advise ∈ wsL_law := zr_29 _ (List.mem_of_getElem? (i := 3) rfl)
theorem zv_L_67 : zGV RL 67 RX6 yX6_advise cX6_advise 6 (some .int) 1 := ⟨zgv zL_L_67 zI_X6_advise zS_X6_advise zN_X6 zO_X6_advise, by decide +kernel⟩
theorem zL_L_70 : Cond.methodLink RL 70 yX6_bestWater ∈ wsL_law := zr_29 _ (List.mem_of_getElem? (i := 12) rfl)
theorem zO_X6_bestWater : Cond.code yX6_bestWater cX6_bestWater 9 (some .int) ∈ wsL_law := zr_29 _ (List.mem_of_getElem? (i := 15) rfl)
theorem zI_X6_bestWater : Cond.instanceMethod yX6_bestWater ∈ wsL_law := zr_29 _ (List.mem_of_getElem? (i := 13) rfl)
theorem zS_X6_bestWater : Cond.selects RX6 yX6_bestWater yX6_bestWater ∈ wsL_law := zr_29 _ (List.mem_of_getElem? (i := 14) rfl)
theorem zv_L_70 : zGV RL 70 RX6 yX6_bestWater cX6_bestWater 9 (some .int) 2 := ⟨zgv zL_L_70 zI_X6_bestWater zS_X6_bestWater zN_X6 zO_X6_bestWater, by decide +kernel⟩
theorem zL_L_73 : Cond.methodLink RL 73 yX6_init ∈ wsL_law := zr_1 _ (List.mem_of_getElem? (i := 7) rfl)
theorem zO_X6_init : Cond.code yX6_init cX6_init 1 none ∈ wsL_law := zr_1 _ (List.mem_of_getElem? (i := 9) rfl)
theorem zL_L_76 : Cond.methodLink RL 76 yX8_init ∈ wsL_law := zr_4 _ (List.mem_of_getElem? (i := 2) rfl)
theorem zO_X8_init : Cond.code yX8_init cX8_init 1 none ∈ wsL_law := zr_4 _ (List.mem_of_getElem? (i := 4) rfl)
theorem zL_L_77 : Cond.methodLink RL 77 yL_setInflow ∈ wsL_law := zr_5 _ (List.mem_of_getElem? (i := 6) rfl)
theorem zO_L_setInflow : Cond.codeWith yL_setInflow cL_setInflow 5 (some .int) [(0, 10, 13, 13), (0, 10, 17, 15)] ∈ wsL_law := zr_5 _ (List.mem_of_getElem? (i := 9) rfl)
theorem zL_L_82 : Cond.methodLink RL 82 yX8_setInflow ∈ wsL_law := zr_5 _ (List.mem_of_getElem? (i := 21) rfl)
theorem zO_X8_setInflow : Cond.code yX8_setInflow cX8_setInflow 4 (some .int) ∈ wsL_law := zr_6 _ (List.mem_of_getElem? (i := 0) rfl)
theorem zI_X8_setInflow : Cond.instanceMethod yX8_setInflow ∈ wsL_law := zr_5 _ (List.mem_of_getElem? (i := 22) rfl)
theorem zS_X8_setInflow : Cond.selects RX8 yX8_setInflow yX8_setInflow ∈ wsL_law := zr_5 _ (List.mem_of_getElem? (i := 23) rfl)
theorem zN_X8 : Cond.initialized RX8 ∈ wsL_law := zr_1 _ (List.mem_of_getElem? (i := 5) rfl)
theorem zv_L_82 : zGV RL 82 RX8 yX8_setInflow cX8_setInflow 4 (some .int) 2 := ⟨zgv zL_L_82 zI_X8_setInflow zS_X8_setInflow zN_X8 zO_X8_setInflow, by decide +kernel⟩
theorem zL_L_83 : Cond.methodLink RL 83 yX8_thrown ∈ wsL_law := zr_6 _ (List.mem_of_getElem? (i := 9) rfl)
theorem zO_X8_thrown : Cond.code yX8_thrown cX8_thrown 1 (some .int) ∈ wsL_law := zr_6 _ (List.mem_of_getElem? (i := 12) rfl)
theorem zI_X8_thrown : Cond.instanceMethod yX8_thrown ∈ wsL_law := zr_6 _ (List.mem_of_getElem? (i := 10) rfl)
theorem zS_X8_thrown : Cond.selects RX8 yX8_thrown yX8_thrown ∈ wsL_law := zr_6 _ (List.mem_of_getElem? (i := 11) rfl)
theorem zv_L_83 : zGV RL 83 RX8 yX8_thrown cX8_thrown 1 (some .int) 0 := ⟨zgv zL_L_83 zI_X8_thrown zS_X8_thrown zN_X8 zO_X8_thrown, by decide +kernel⟩
theorem zL_L_86 : Cond.methodLink RL 86 yL_setSluice ∈ wsL_law := zr_6 _ (List.mem_of_getElem? (i := 13) rfl)
theorem zO_L_setSluice : Cond.codeWith yL_setSluice cL_setSluice 4 (some .int) [(0, 9, 12, 15)] ∈ wsL_law := zr_6 _ (List.mem_of_getElem? (i := 15) rfl)
theorem zL_L_89 : Cond.methodLink RL 89 yX8_setSluice ∈ wsL_law := zr_6 _ (List.mem_of_getElem? (i := 21) rfl)
theorem zO_X8_setSluice : Cond.code yX8_setSluice cX8_setSluice 3 (some .int) ∈ wsL_law := zr_7 _ (List.mem_of_getElem? (i := 0) rfl)
theorem zI_X8_setSluice : Cond.instanceMethod yX8_setSluice ∈ wsL_law := zr_6 _ (List.mem_of_getElem? (i := 22) rfl)
theorem zS_X8_setSluice : Cond.selects RX8 yX8_setSluice yX8_setSluice ∈ wsL_law := zr_6 _ (List.mem_of_getElem? (i := 23) rfl)
theorem zv_L_89 : zGV RL 89 RX8 yX8_setSluice cX8_setSluice 3 (some .int) 1 := ⟨zgv zL_L_89 zI_X8_setSluice zS_X8_setSluice zN_X8 zO_X8_setSluice, by decide +kernel⟩
theorem zL_L_90 : Cond.methodLink RL 90 yL_addBox ∈ wsL_law := zr_7 _ (List.mem_of_getElem? (i := 1) rfl)
theorem zO_L_addBox : Cond.codeWith yL_addBox cL_addBox 3 (some .int) [(0, 8, 11, 25)] ∈ wsL_law := zr_7 _ (List.mem_of_getElem? (i := 3) rfl)
theorem zL_L_93 : Cond.methodLink RL 93 yX8_addBox ∈ wsL_law := zr_7 _ (List.mem_of_getElem? (i := 12) rfl)
theorem zO_X8_addBox : Cond.code yX8_addBox cX8_addBox 1 (some .int) ∈ wsL_law := zr_7 _ (List.mem_of_getElem? (i := 15) rfl)
theorem zI_X8_addBox : Cond.instanceMethod yX8_addBox ∈ wsL_law := zr_7 _ (List.mem_of_getElem? (i := 13) rfl)
theorem zS_X8_addBox : Cond.selects RX8 yX8_addBox yX8_addBox ∈ wsL_law := zr_7 _ (List.mem_of_getElem? (i := 14) rfl)
theorem zv_L_93 : zGV RL 93 RX8 yX8_addBox cX8_addBox 1 (some .int) 0 := ⟨zgv zL_L_93 zI_X8_addBox zS_X8_addBox zN_X8 zO_X8_addBox, by decide +kernel⟩
theorem zL_L_94 : Cond.methodLink RL 94 yL_hang ∈ wsL_law := zr_7 _ (List.mem_of_getElem? (i := 16) rfl)
theorem zO_L_hang : Cond.codeWith yL_hang cL_hang 6 (some .int) [(0, 12, 15, 13), (0, 12, 19, 15), (0, 12, 23, 25)] ∈ wsL_law := zr_7 _ (List.mem_of_getElem? (i := 18) rfl)
theorem zL_L_97 : Cond.methodLink RL 97 yX8_hang ∈ wsL_law := zr_8 _ (List.mem_of_getElem? (i := 12) rfl)
theorem zO_X8_hang : Cond.code yX8_hang cX8_hang 5 (some .int) ∈ wsL_law := zr_8 _ (List.mem_of_getElem? (i := 15) rfl)
theorem zI_X8_hang : Cond.instanceMethod yX8_hang ∈ wsL_law := zr_8 _ (List.mem_of_getElem? (i := 13) rfl)
theorem zS_X8_hang : Cond.selects RX8 yX8_hang yX8_hang ∈ wsL_law := zr_8 _ (List.mem_of_getElem? (i := 14) rfl)
theorem zv_L_97 : zGV RL 97 RX8 yX8_hang cX8_hang 5 (some .int) 3 := ⟨zgv zL_L_97 zI_X8_hang zS_X8_hang zN_X8 zO_X8_hang, by decide +kernel⟩
theorem zL_L_98 : Cond.methodLink RL 98 yL_shoe ∈ wsL_law := zr_8 _ (List.mem_of_getElem? (i := 20) rfl)
theorem zO_L_shoe : Cond.codeWith yL_shoe cL_shoe 5 (some .int) [(0, 10, 13, 13)] ∈ wsL_law := zr_8 _ (List.mem_of_getElem? (i := 22) rfl)
theorem zL_L_100 : Cond.methodLink RL 100 yX8_shoe ∈ wsL_law := zr_9 _ (List.mem_of_getElem? (i := 5) rfl)
theorem zO_X8_shoe : Cond.code yX8_shoe cX8_shoe 4 (some .int) ∈ wsL_law := zr_9 _ (List.mem_of_getElem? (i := 8) rfl)
theorem zI_X8_shoe : Cond.instanceMethod yX8_shoe ∈ wsL_law := zr_9 _ (List.mem_of_getElem? (i := 6) rfl)
theorem zS_X8_shoe : Cond.selects RX8 yX8_shoe yX8_shoe ∈ wsL_law := zr_9 _ (List.mem_of_getElem? (i := 7) rfl)
theorem zv_L_100 : zGV RL 100 RX8 yX8_shoe cX8_shoe 4 (some .int) 2 := ⟨zgv zL_L_100 zI_X8_shoe zS_X8_shoe zN_X8 zO_X8_shoe, by decide +kernel⟩
theorem zL_L_101 : Cond.methodLink RL 101 yL_setBox ∈ wsL_law := zr_9 _ (List.mem_of_getElem? (i := 9) rfl)
theorem zO_L_setBox : Cond.codeWith yL_setBox cL_setBox 6 (some .int) [(0, 12, 15, 13), (0, 12, 19, 15)] ∈ wsL_law := zr_9 _ (List.mem_of_getElem? (i := 11) rfl)
theorem zL_L_103 : Cond.methodLink RL 103 yX8_setBox ∈ wsL_law := zr_9 _ (List.mem_of_getElem? (i := 18) rfl)
theorem zO_X8_setBox : Cond.code yX8_setBox cX8_setBox 5 (some .int) ∈ wsL_law := zr_9 _ (List.mem_of_getElem? (i := 21) rfl)
theorem zI_X8_setBox : Cond.instanceMethod yX8_setBox ∈ wsL_law := zr_9 _ (List.mem_of_getElem? (i := 19) rfl)
theorem zS_X8_setBox : Cond.selects RX8 yX8_setBox yX8_setBox ∈ wsL_law := zr_9 _ (List.mem_of_getElem? (i := 20) rfl)
theorem zv_L_103 : zGV RL 103 RX8 yX8_setBox cX8_setBox 5 (some .int) 3 := ⟨zgv zL_L_103 zI_X8_setBox zS_X8_setBox zN_X8 zO_X8_setBox, by decide +kernel⟩
theorem zL_L_104 : Cond.methodLink RL 104 yL_box ∈ wsL_law := zr_9 _ (List.mem_of_getElem? (i := 22) rfl)
theorem zO_L_box : Cond.codeWith yL_box cL_box 5 (some .int) [(0, 10, 13, 13)] ∈ wsL_law := zr_10 _ (List.mem_of_getElem? (i := 0) rfl)
theorem zL_L_106 : Cond.methodLink RL 106 yX8_box ∈ wsL_law := zr_10 _ (List.mem_of_getElem? (i := 18) rfl)
theorem zO_X8_box : Cond.code yX8_box cX8_box 3 (some .int) ∈ wsL_law := zr_10 _ (List.mem_of_getElem? (i := 21) rfl)
theorem zI_X8_box : Cond.instanceMethod yX8_box ∈ wsL_law := zr_10 _ (List.mem_of_getElem? (i := 19) rfl)
theorem zS_X8_box : Cond.selects RX8 yX8_box yX8_box ∈ wsL_law := zr_10 _ (List.mem_of_getElem? (i := 20) rfl)
theorem zv_L_106 : zGV RL 106 RX8 yX8_box cX8_box 3 (some .int) 2 := ⟨zgv zL_L_106 zI_X8_box zS_X8_box zN_X8 zO_X8_box, by decide +kernel⟩
theorem zL_L_107 : Cond.methodLink RL 107 yL_bring ∈ wsL_law := zr_11 _ (List.mem_of_getElem? (i := 2) rfl)
theorem zO_L_bring : Cond.codeWith yL_bring cL_bring 6 (some .int) [(0, 12, 15, 15), (0, 12, 19, 25)] ∈ wsL_law := zr_11 _ (List.mem_of_getElem? (i := 4) rfl)
theorem zL_L_109 : Cond.methodLink RL 109 yX8_bring ∈ wsL_law := zr_12 _ (List.mem_of_getElem? (i := 13) rfl)
theorem zO_X8_bring : Cond.code yX8_bring cX8_bring 5 (some .int) ∈ wsL_law := zr_12 _ (List.mem_of_getElem? (i := 16) rfl)
theorem zI_X8_bring : Cond.instanceMethod yX8_bring ∈ wsL_law := zr_12 _ (List.mem_of_getElem? (i := 14) rfl)
theorem zS_X8_bring : Cond.selects RX8 yX8_bring yX8_bring ∈ wsL_law := zr_12 _ (List.mem_of_getElem? (i := 15) rfl)
theorem zv_L_109 : zGV RL 109 RX8 yX8_bring cX8_bring 5 (some .int) 3 := ⟨zgv zL_L_109 zI_X8_bring zS_X8_bring zN_X8 zO_X8_bring, by decide +kernel⟩
theorem zL_L_110 : Cond.methodLink RL 110 yL_lot ∈ wsL_law := zr_12 _ (List.mem_of_getElem? (i := 22) rfl)
theorem zO_L_lot : Cond.codeWith yL_lot cL_lot 5 (some .int) [(0, 10, 13, 13)] ∈ wsL_law := zr_13 _ (List.mem_of_getElem? (i := 0) rfl)
theorem zL_L_112 : Cond.methodLink RL 112 yX8_lot ∈ wsL_law := zr_13 _ (List.mem_of_getElem? (i := 20) rfl)
theorem zO_X8_lot : Cond.code yX8_lot cX8_lot 3 (some .int) ∈ wsL_law := zr_13 _ (List.mem_of_getElem? (i := 23) rfl)
theorem zI_X8_lot : Cond.instanceMethod yX8_lot ∈ wsL_law := zr_13 _ (List.mem_of_getElem? (i := 21) rfl)
theorem zS_X8_lot : Cond.selects RX8 yX8_lot yX8_lot ∈ wsL_law := zr_13 _ (List.mem_of_getElem? (i := 22) rfl)
theorem zv_L_112 : zGV RL 112 RX8 yX8_lot cX8_lot 3 (some .int) 2 := ⟨zgv zL_L_112 zI_X8_lot zS_X8_lot zN_X8 zO_X8_lot, by decide +kernel⟩
theorem zL_L_113 : Cond.methodLink RL 113 yL_run ∈ wsL_law := zr_14 _ (List.mem_of_getElem? (i := 0) rfl)
theorem zO_L_run : Cond.codeWith yL_run cL_run 4 (some .int) [(0, 9, 12, 15), (0, 9, 15, 25)] ∈ wsL_law := zr_14 _ (List.mem_of_getElem? (i := 2) rfl)
theorem zL_L_115 : Cond.methodLink RL 115 yX8_run_ ∈ wsL_law := zr_18 _ (List.mem_of_getElem? (i := 20) rfl)
theorem zO_X8_run_ : Cond.code yX8_run_ cX8_run_ 2 (some .int) ∈ wsL_law := zr_18 _ (List.mem_of_getElem? (i := 23) rfl)
theorem zI_X8_run_ : Cond.instanceMethod yX8_run_ ∈ wsL_law := zr_18 _ (List.mem_of_getElem? (i := 21) rfl)
theorem zS_X8_run_ : Cond.selects RX8 yX8_run_ yX8_run_ ∈ wsL_law := zr_18 _ (List.mem_of_getElem? (i := 22) rfl)
theorem zv_L_115 : zGV RL 115 RX8 yX8_run_ cX8_run_ 2 (some .int) 1 := ⟨zgv zL_L_115 zI_X8_run_ zS_X8_run_ zN_X8 zO_X8_run_, by decide +kernel⟩
theorem zL_L_116 : Cond.methodLink RL 116 yL_count ∈ wsL_law := zr_20 _ (List.mem_of_getElem? (i := 18) rfl)
theorem zO_L_count : Cond.codeWith yL_count cL_count 4 (some .int) [(0, 9, 12, 13)] ∈ wsL_law := zr_20 _ (List.mem_of_getElem? (i := 20) rfl)
theorem zL_L_118 : Cond.methodLink RL 118 yX8_count ∈ wsL_law := zr_21 _ (List.mem_of_getElem? (i := 21) rfl)
theorem zO_X8_count : Cond.code yX8_count cX8_count 2 (some .int) ∈ wsL_law := zr_22 _ (List.mem_of_getElem? (i := 0) rfl)
theorem zI_X8_count : Cond.instanceMethod yX8_count ∈ wsL_law := zr_21 _ (List.mem_of_getElem? (i := 22) rfl)
theorem zS_X8_count : Cond.selects RX8 yX8_count yX8_count ∈ wsL_law := zr_21 _ (List.mem_of_getElem? (i := 23) rfl)
theorem zv_L_118 : zGV RL 118 RX8 yX8_count cX8_count 2 (some .int) 1 := ⟨zgv zL_L_118 zI_X8_count zS_X8_count zN_X8 zO_X8_count, by decide +kernel⟩
theorem zL_L_119 : Cond.methodLink RL 119 yL_buddle ∈ wsL_law := zr_22 _ (List.mem_of_getElem? (i := 17) rfl)
theorem zO_L_buddle : Cond.codeWith yL_buddle cL_buddle 5 (some .int) [(0, 10, 13, 13)] ∈ wsL_law := zr_22 _ (List.mem_of_getElem? (i := 19) rfl)
theorem zL_L_121 : Cond.methodLink RL 121 yX8_buddle ∈ wsL_law := zr_23 _ (List.mem_of_getElem? (i := 6) rfl)
theorem zO_X8_buddle : Cond.code yX8_buddle cX8_buddle 3 (some .int) ∈ wsL_law := zr_23 _ (List.mem_of_getElem? (i := 9) rfl)
theorem zI_X8_buddle : Cond.instanceMethod yX8_buddle ∈ wsL_law := zr_23 _ (List.mem_of_getElem? (i := 7) rfl)
theorem zS_X8_buddle : Cond.selects RX8 yX8_buddle yX8_buddle ∈ wsL_law := zr_23 _ (List.mem_of_getElem? (i := 8) rfl)
theorem zv_L_121 : zGV RL 121 RX8 yX8_buddle cX8_buddle 3 (some .int) 2 := ⟨zgv zL_L_121 zI_X8_buddle zS_X8_buddle zN_X8 zO_X8_buddle, by decide +kernel⟩
theorem zL_L_122 : Cond.methodLink RL 122 yL_wash ∈ wsL_law := zr_23 _ (List.mem_of_getElem? (i := 18) rfl)
theorem zO_L_wash : Cond.codeWith yL_wash cL_wash 5 (some .int) [(0, 10, 13, 13), (0, 10, 17, 15), (0, 10, 21, 25)] ∈ wsL_law := zr_23 _ (List.mem_of_getElem? (i := 20) rfl)
theorem zL_L_124 : Cond.methodLink RL 124 yX8_wash ∈ wsL_law := zr_24 _ (List.mem_of_getElem? (i := 13) rfl)
theorem zO_X8_wash : Cond.code yX8_wash cX8_wash 7 (some .int) ∈ wsL_law := zr_24 _ (List.mem_of_getElem? (i := 16) rfl)
theorem zI_X8_wash : Cond.instanceMethod yX8_wash ∈ wsL_law := zr_24 _ (List.mem_of_getElem? (i := 14) rfl)
theorem zS_X8_wash : Cond.selects RX8 yX8_wash yX8_wash ∈ wsL_law := zr_24 _ (List.mem_of_getElem? (i := 15) rfl)
theorem zv_L_124 : zGV RL 124 RX8 yX8_wash cX8_wash 7 (some .int) 2 := ⟨zgv zL_L_124 zI_X8_wash zS_X8_wash zN_X8 zO_X8_wash, by decide +kernel⟩
theorem zL_L_125 : Cond.methodLink RL 125 yL_again ∈ wsL_law := zr_25 _ (List.mem_of_getElem? (i := 2) rfl)
theorem zO_L_again : Cond.codeWith yL_again cL_again 4 (some .int) [(0, 9, 12, 13)] ∈ wsL_law := zr_25 _ (List.mem_of_getElem? (i := 4) rfl)
theorem zL_L_127 : Cond.methodLink RL 127 yX8_again ∈ wsL_law := zr_25 _ (List.mem_of_getElem? (i := 11) rfl)
theorem zO_X8_again : Cond.code yX8_again cX8_again 3 (some .int) ∈ wsL_law := zr_25 _ (List.mem_of_getElem? (i := 14) rfl)
theorem zI_X8_again : Cond.instanceMethod yX8_again ∈ wsL_law := zr_25 _ (List.mem_of_getElem? (i := 12) rfl)
theorem zS_X8_again : Cond.selects RX8 yX8_again yX8_again ∈ wsL_law := zr_25 _ (List.mem_of_getElem? (i := 13) rfl)
theorem zv_L_127 : zGV RL 127 RX8 yX8_again cX8_again 3 (some .int) 1 := ⟨zgv zL_L_127 zI_X8_again zS_X8_again zN_X8 zO_X8_again, by decide +kernel⟩
theorem zL_L_128 : Cond.methodLink RL 128 yL_smelt ∈ wsL_law := zr_25 _ (List.mem_of_getElem? (i := 17) rfl)
theorem zO_L_smelt : Cond.codeWith yL_smelt cL_smelt 4 (some .int) [(0, 9, 12, 15), (0, 9, 15, 25)] ∈ wsL_law := zr_25 _ (List.mem_of_getElem? (i := 19) rfl)
theorem zL_L_130 : Cond.methodLink RL 130 yX8_smelt ∈ wsL_law := zr_26 _ (List.mem_of_getElem? (i := 5) rfl)
theorem zO_X8_smelt : Cond.code yX8_smelt cX8_smelt 4 (some .int) ∈ wsL_law := zr_26 _ (List.mem_of_getElem? (i := 8) rfl)
theorem zI_X8_smelt : Cond.instanceMethod yX8_smelt ∈ wsL_law := zr_26 _ (List.mem_of_getElem? (i := 6) rfl)
theorem zS_X8_smelt : Cond.selects RX8 yX8_smelt yX8_smelt ∈ wsL_law := zr_26 _ (List.mem_of_getElem? (i := 7) rfl)
theorem zv_L_130 : zGV RL 130 RX8 yX8_smelt cX8_smelt 4 (some .int) 1 := ⟨zgv zL_L_130 zI_X8_smelt zS_X8_smelt zN_X8 zO_X8_smelt, by decide +kernel⟩
theorem zL_L_131 : Cond.methodLink RL 131 yL_foresee ∈ wsL_law := zr_26 _ (List.mem_of_getElem? (i := 9) rfl)
theorem zO_L_foresee : Cond.codeWith yL_foresee cL_foresee 5 (some .int) [(0, 10, 13, 15), (0, 10, 17, 13), (0, 10, 21, 25)] ∈ wsL_law := zr_26 _ (List.mem_of_getElem? (i := 11) rfl)
theorem zL_L_133 : Cond.methodLink RL 133 yX8_foresee ∈ wsL_law := zr_28 _ (List.mem_of_getElem? (i := 6) rfl)
theorem zO_X8_foresee : Cond.code yX8_foresee cX8_foresee 4 (some .int) ∈ wsL_law := zr_28 _ (List.mem_of_getElem? (i := 9) rfl)
theorem zI_X8_foresee : Cond.instanceMethod yX8_foresee ∈ wsL_law := zr_28 _ (List.mem_of_getElem? (i := 7) rfl)
theorem zS_X8_foresee : Cond.selects RX8 yX8_foresee yX8_foresee ∈ wsL_law := zr_28 _ (List.mem_of_getElem? (i := 8) rfl)
theorem zv_L_133 : zGV RL 133 RX8 yX8_foresee cX8_foresee 4 (some .int) 2 := ⟨zgv zL_L_133 zI_X8_foresee zS_X8_foresee zN_X8 zO_X8_foresee, by decide +kernel⟩
theorem zL_L_134 : Cond.methodLink RL 134 yL_advise ∈ wsL_law := zr_28 _ (List.mem_of_getElem? (i := 22) rfl)
theorem zO_L_advise : Cond.codeWith yL_advise cL_advise 4 (some .int) [(0, 9, 12, 15), (0, 9, 15, 25)] ∈ wsL_law := zr_29 _ (List.mem_of_getElem? (i := 0) rfl)
theorem zL_L_136 : Cond.methodLink RL 136 yX8_advise ∈ wsL_law := zr_29 _ (List.mem_of_getElem? (i := 5) rfl)
theorem zO_X8_advise : Cond.code yX8_advise cX8_advise 5 (some .int) ∈ wsL_law := zr_29 _ (List.mem_of_getElem? (i := 8) rfl)
theorem zI_X8_advise : Cond.instanceMethod yX8_advise ∈ wsL_law := zr_29 _ (List.mem_of_getElem? (i := 6) rfl)
theorem zS_X8_advise : Cond.selects RX8 yX8_advise yX8_advise ∈ wsL_law := zr_29 _ (List.mem_of_getElem? (i := 7) rfl)
theorem zv_L_136 : zGV RL 136 RX8 yX8_advise cX8_advise 5 (some .int) 1 := ⟨zgv zL_L_136 zI_X8_advise zS_X8_advise zN_X8 zO_X8_advise, by decide +kernel⟩
theorem zL_L_137 : Cond.methodLink RL 137 yL_bestWater ∈ wsL_law := zr_29 _ (List.mem_of_getElem? (i := 9) rfl)
theorem zO_L_bestWater : Cond.codeWith yL_bestWater cL_bestWater 5 (some .int) [(0, 10, 13, 13), (0, 10, 17, 15)] ∈ wsL_law := zr_29 _ (List.mem_of_getElem? (i := 11) rfl)
theorem zL_L_139 : Cond.methodLink RL 139 yX8_bestWater ∈ wsL_law := zr_29 _ (List.mem_of_getElem? (i := 21) rfl)
theorem zO_X8_bestWater : Cond.code yX8_bestWater cX8_bestWater 7 (some .int) ∈ wsL_law := zr_30 _ (List.mem_of_getElem? (i := 0) rfl)
theorem zI_X8_bestWater : Cond.instanceMethod yX8_bestWater ∈ wsL_law := zr_29 _ (List.mem_of_getElem? (i := 22) rfl)
theorem zS_X8_bestWater : Cond.selects RX8 yX8_bestWater yX8_bestWater ∈ wsL_law := zr_29 _ (List.mem_of_getElem? (i := 23) rfl)
theorem zv_L_139 : zGV RL 139 RX8 yX8_bestWater cX8_bestWater 7 (some .int) 2 := ⟨zgv zL_L_139 zI_X8_bestWater zS_X8_bestWater zN_X8 zO_X8_bestWater, by decide +kernel⟩
theorem zL_L_140 : Cond.methodLink RL 140 yX6_share ∈ wsL_law := zr_30 _ (List.mem_of_getElem? (i := 1) rfl)
theorem zO_X6_share : Cond.code yX6_share cX6_share 3 (some .double) ∈ wsL_law := zr_30 _ (List.mem_of_getElem? (i := 4) rfl)
theorem zI_X6_share : Cond.instanceMethod yX6_share ∈ wsL_law := zr_30 _ (List.mem_of_getElem? (i := 2) rfl)
theorem zS_X6_share : Cond.selects RX6 yX6_share yX6_share ∈ wsL_law := zr_30 _ (List.mem_of_getElem? (i := 3) rfl)
theorem zv_L_140 : zGV RL 140 RX6 yX6_share cX6_share 3 (some .double) 0 := ⟨zgv zL_L_140 zI_X6_share zS_X6_share zN_X6 zO_X6_share, by decide +kernel⟩
theorem zL_L_144 : Cond.methodLink RL 144 yX8_share ∈ wsL_law := zr_30 _ (List.mem_of_getElem? (i := 7) rfl)
theorem zO_X8_share : Cond.code yX8_share cX8_share 2 (some .double) ∈ wsL_law := zr_30 _ (List.mem_of_getElem? (i := 10) rfl)
theorem zI_X8_share : Cond.instanceMethod yX8_share ∈ wsL_law := zr_30 _ (List.mem_of_getElem? (i := 8) rfl)
theorem zS_X8_share : Cond.selects RX8 yX8_share yX8_share ∈ wsL_law := zr_30 _ (List.mem_of_getElem? (i := 9) rfl)
theorem zv_L_144 : zGV RL 144 RX8 yX8_share cX8_share 2 (some .double) 0 := ⟨zgv zL_L_144 zI_X8_share zS_X8_share zN_X8 zO_X8_share, by decide +kernel⟩
theorem zL_L_145 : Cond.methodLink RL 145 yX6_digest ∈ wsL_law := zr_30 _ (List.mem_of_getElem? (i := 11) rfl)
theorem zO_X6_digest : Cond.code yX6_digest cX6_digest 4 (some .long) ∈ wsL_law := zr_30 _ (List.mem_of_getElem? (i := 14) rfl)
theorem zI_X6_digest : Cond.instanceMethod yX6_digest ∈ wsL_law := zr_30 _ (List.mem_of_getElem? (i := 12) rfl)
theorem zS_X6_digest : Cond.selects RX6 yX6_digest yX6_digest ∈ wsL_law := zr_30 _ (List.mem_of_getElem? (i := 13) rfl)
theorem zv_L_145 : zGV RL 145 RX6 yX6_digest cX6_digest 4 (some .long) 0 := ⟨zgv zL_L_145 zI_X6_digest zS_X6_digest zN_X6 zO_X6_digest, by decide +kernel⟩
theorem zL_L_149 : Cond.methodLink RL 149 yX8_digest ∈ wsL_law := zr_31 _ (List.mem_of_getElem? (i := 7) rfl)
theorem zO_X8_digest : Cond.code yX8_digest cX8_digest 5 (some .long) ∈ wsL_law := zr_31 _ (List.mem_of_getElem? (i := 10) rfl)
theorem zI_X8_digest : Cond.instanceMethod yX8_digest ∈ wsL_law := zr_31 _ (List.mem_of_getElem? (i := 8) rfl)
theorem zS_X8_digest : Cond.selects RX8 yX8_digest yX8_digest ∈ wsL_law := zr_31 _ (List.mem_of_getElem? (i := 9) rfl)
theorem zv_L_149 : zGV RL 149 RX8 yX8_digest cX8_digest 5 (some .long) 0 := ⟨zgv zL_L_149 zI_X8_digest zS_X8_digest zN_X8 zO_X8_digest, by decide +kernel⟩
theorem zL_X0_3 : Cond.methodLink RX0 3 objectInit ∈ wsL_law := zr_2 _ (List.mem_of_getElem? (i := 19) rfl)
theorem zL_X0_56 : Cond.methodLink RX0 56 yX0_wearOfStamps ∈ wsL_law := zr_10 _ (List.mem_of_getElem? (i := 13) rfl)
theorem zO_X0_wearOfStamps : Cond.code yX0_wearOfStamps cX0_wearOfStamps 3 (some .int) ∈ wsL_law := zr_10 _ (List.mem_of_getElem? (i := 16) rfl)
theorem zI_X0_wearOfStamps : Cond.instanceMethod yX0_wearOfStamps ∈ wsL_law := zr_10 _ (List.mem_of_getElem? (i := 14) rfl)
theorem zS_X0_wearOfStamps : Cond.selects RX0 yX0_wearOfStamps yX0_wearOfStamps ∈ wsL_law := zr_10 _ (List.mem_of_getElem? (i := 15) rfl)
theorem zN_X0 : Cond.initialized RX0 ∈ wsL_law := zr_2 _ (List.mem_of_getElem? (i := 3) rfl)
theorem zv_X0_56 : zGV RX0 56 RX0 yX0_wearOfStamps cX0_wearOfStamps 3 (some .int) 0 := ⟨zgv zL_X0_56 zI_X0_wearOfStamps zS_X0_wearOfStamps zN_X0 zO_X0_wearOfStamps, by decide +kernel⟩
theorem zL_X0_66 : Cond.methodLink RX0 66 yX4_loadOfStamp ∈ wsL_law := zr_15 _ (List.mem_of_getElem? (i := 21) rfl)
theorem zO_X4_loadOfStamp : Cond.code yX4_loadOfStamp cX4_loadOfStamp 1 (some .int) ∈ wsL_law := zr_16 _ (List.mem_of_getElem? (i := 0) rfl)
theorem zI_X4_loadOfStamp : Cond.instanceMethod yX4_loadOfStamp ∈ wsL_law := zr_15 _ (List.mem_of_getElem? (i := 22) rfl)
theorem zS_X4_loadOfStamp : Cond.selects RX4 yX4_loadOfStamp yX4_loadOfStamp ∈ wsL_law := zr_15 _ (List.mem_of_getElem? (i := 23) rfl)
theorem zN_X4 : Cond.initialized RX4 ∈ wsL_law := zr_2 _ (List.mem_of_getElem? (i := 23) rfl)
theorem zv_X0_66 : zGV RX0 66 RX4 yX4_loadOfStamp cX4_loadOfStamp 1 (some .int) 0 := ⟨zgv zL_X0_66 zI_X4_loadOfStamp zS_X4_loadOfStamp zN_X4 zO_X4_loadOfStamp, by decide +kernel⟩
theorem zL_X0_69 : Cond.methodLink RX0 69 yX4_forceOfStamp ∈ wsL_law := zr_17 _ (List.mem_of_getElem? (i := 19) rfl)
theorem zO_X4_forceOfStamp : Cond.code yX4_forceOfStamp cX4_forceOfStamp 2 (some .int) ∈ wsL_law := zr_17 _ (List.mem_of_getElem? (i := 22) rfl)
theorem zI_X4_forceOfStamp : Cond.instanceMethod yX4_forceOfStamp ∈ wsL_law := zr_17 _ (List.mem_of_getElem? (i := 20) rfl)
theorem zS_X4_forceOfStamp : Cond.selects RX4 yX4_forceOfStamp yX4_forceOfStamp ∈ wsL_law := zr_17 _ (List.mem_of_getElem? (i := 21) rfl)
theorem zv_X0_69 : zGV RX0 69 RX4 yX4_forceOfStamp cX4_forceOfStamp 2 (some .int) 1 := ⟨zgv zL_X0_69 zI_X4_forceOfStamp zS_X4_forceOfStamp zN_X4 zO_X4_forceOfStamp, by decide +kernel⟩
theorem zL_X0_73 : Cond.methodLink RX0 73 yX0_forceOfStamps ∈ wsL_law := zr_17 _ (List.mem_of_getElem? (i := 15) rfl)
theorem zO_X0_forceOfStamps : Cond.code yX0_forceOfStamps cX0_forceOfStamps 4 (some .int) ∈ wsL_law := zr_17 _ (List.mem_of_getElem? (i := 18) rfl)
theorem zI_X0_forceOfStamps : Cond.instanceMethod yX0_forceOfStamps ∈ wsL_law := zr_17 _ (List.mem_of_getElem? (i := 16) rfl)
theorem zS_X0_forceOfStamps : Cond.selects RX0 yX0_forceOfStamps yX0_forceOfStamps ∈ wsL_law := zr_17 _ (List.mem_of_getElem? (i := 17) rfl)
theorem zv_X0_73 : zGV RX0 73 RX0 yX0_forceOfStamps cX0_forceOfStamps 4 (some .int) 1 := ⟨zgv zL_X0_73 zI_X0_forceOfStamps zS_X0_forceOfStamps zN_X0 zO_X0_forceOfStamps, by decide +kernel⟩
theorem zL_X0_76 : Cond.methodLink RX0 76 Lib.Math.max.name ∈ wsL_law := zr_17 _ (List.mem_of_getElem? (i := 14) rfl)
theorem zL_X0_82 : Cond.methodLink RX0 82 yX3_moveTo ∈ wsL_law := zr_18 _ (List.mem_of_getElem? (i := 0) rfl)
theorem zO_X3_moveTo : Cond.code yX3_moveTo cX3_moveTo 5 (some .int) ∈ wsL_law := zr_16 _ (List.mem_of_getElem? (i := 19) rfl)
theorem zI_X3_moveTo : Cond.instanceMethod yX3_moveTo ∈ wsL_law := zr_16 _ (List.mem_of_getElem? (i := 17) rfl)
theorem zS_X3_moveTo : Cond.selects RX3 yX3_moveTo yX3_moveTo ∈ wsL_law := zr_16 _ (List.mem_of_getElem? (i := 18) rfl)
theorem zN_X3 : Cond.initialized RX3 ∈ wsL_law := zr_2 _ (List.mem_of_getElem? (i := 11) rfl)
theorem zv_X0_82 : zGV RX0 82 RX3 yX3_moveTo cX3_moveTo 5 (some .int) 2 := ⟨zgv zL_X0_82 zI_X3_moveTo zS_X3_moveTo zN_X3 zO_X3_moveTo, by decide +kernel⟩
theorem zL_X0_86 : Cond.methodLink RX0 86 Lib.Math.min.name ∈ wsL_law := zr_18 _ (List.mem_of_getElem? (i := 5) rfl)
theorem zL_X0_89 : Cond.methodLink RX0 89 yX3_whole ∈ wsL_law := zr_18 _ (List.mem_of_getElem? (i := 10) rfl)
theorem zO_X3_whole : Cond.code yX3_whole cX3_whole 1 (some .int) ∈ wsL_law := zr_17 _ (List.mem_of_getElem? (i := 0) rfl)
theorem zI_X3_whole : Cond.instanceMethod yX3_whole ∈ wsL_law := zr_16 _ (List.mem_of_getElem? (i := 22) rfl)
theorem zS_X3_whole : Cond.selects RX3 yX3_whole yX3_whole ∈ wsL_law := zr_16 _ (List.mem_of_getElem? (i := 23) rfl)
theorem zv_X0_89 : zGV RX0 89 RX3 yX3_whole cX3_whole 1 (some .int) 0 := ⟨zgv zL_X0_89 zI_X3_whole zS_X3_whole zN_X3 zO_X3_whole, by decide +kernel⟩
theorem zL_X0_92 : Cond.methodLink RX0 92 yX4_wearBy ∈ wsL_law := zr_18 _ (List.mem_of_getElem? (i := 15) rfl)
theorem zO_X4_wearBy : Cond.code yX4_wearBy cX4_wearBy 2 none ∈ wsL_law := zr_18 _ (List.mem_of_getElem? (i := 18) rfl)
theorem zI_X4_wearBy : Cond.instanceMethod yX4_wearBy ∈ wsL_law := zr_18 _ (List.mem_of_getElem? (i := 16) rfl)
theorem zS_X4_wearBy : Cond.selects RX4 yX4_wearBy yX4_wearBy ∈ wsL_law := zr_18 _ (List.mem_of_getElem? (i := 17) rfl)
theorem zv_X0_92 : zGV RX0 92 RX4 yX4_wearBy cX4_wearBy 2 none 1 := ⟨zgv zL_X0_92 zI_X4_wearBy zS_X4_wearBy zN_X4 zO_X4_wearBy, by decide +kernel⟩
theorem zL_X0_96 : Cond.methodLink RX0 96 yX4_copyStamp ∈ wsL_law := zr_27 _ (List.mem_of_getElem? (i := 6) rfl)
theorem zO_X4_copyStamp : Cond.code yX4_copyStamp cX4_copyStamp 2 none ∈ wsL_law := zr_27 _ (List.mem_of_getElem? (i := 9) rfl)
theorem zI_X4_copyStamp : Cond.instanceMethod yX4_copyStamp ∈ wsL_law := zr_27 _ (List.mem_of_getElem? (i := 7) rfl)
theorem zS_X4_copyStamp : Cond.selects RX4 yX4_copyStamp yX4_copyStamp ∈ wsL_law := zr_27 _ (List.mem_of_getElem? (i := 8) rfl)
theorem zv_X0_96 : zGV RX0 96 RX4 yX4_copyStamp cX4_copyStamp 2 none 1 := ⟨zgv zL_X0_96 zI_X4_copyStamp zS_X4_copyStamp zN_X4 zO_X4_copyStamp, by decide +kernel⟩
theorem zL_X0_100 : Cond.methodLink RX0 100 yX3_copyOre ∈ wsL_law := zr_27 _ (List.mem_of_getElem? (i := 10) rfl)
theorem zO_X3_copyOre : Cond.code yX3_copyOre cX3_copyOre 2 none ∈ wsL_law := zr_27 _ (List.mem_of_getElem? (i := 13) rfl)
theorem zI_X3_copyOre : Cond.instanceMethod yX3_copyOre ∈ wsL_law := zr_27 _ (List.mem_of_getElem? (i := 11) rfl)
theorem zS_X3_copyOre : Cond.selects RX3 yX3_copyOre yX3_copyOre ∈ wsL_law := zr_27 _ (List.mem_of_getElem? (i := 12) rfl)
theorem zv_X0_100 : zGV RX0 100 RX3 yX3_copyOre cX3_copyOre 2 none 1 := ⟨zgv zL_X0_100 zI_X3_copyOre zS_X3_copyOre zN_X3 zO_X3_copyOre, by decide +kernel⟩
theorem zL_X1_3 : Cond.methodLink RX1 3 objectInit ∈ wsL_law := zr_3 _ (List.mem_of_getElem? (i := 15) rfl)
theorem zL_X1_17 : Cond.methodLink RX1 17 yX2_init ∈ wsL_law := zr_3 _ (List.mem_of_getElem? (i := 20) rfl)
theorem zO_X2_init : Cond.code yX2_init cX2_init 1 none ∈ wsL_law := zr_3 _ (List.mem_of_getElem? (i := 22) rfl)
theorem zL_X1_22 : Cond.methodLink RX1 22 yJ9_floorMod_7cf53 ∈ wsL_law := zr_12 _ (List.mem_of_getElem? (i := 3) rfl)
theorem zO_J9_floorMod_7cf53 : Cond.code yJ9_floorMod_7cf53 cJ9_floorMod_7cf53 3 (some .int) ∈ wsL_law := zr_12 _ (List.mem_of_getElem? (i := 6) rfl)
theorem zT_J9_floorMod_7cf53 : Cond.static yJ9_floorMod_7cf53 ∈ wsL_law := zr_12 _ (List.mem_of_getElem? (i := 4) rfl)
theorem zN_J9 : Cond.initialized RJ9 ∈ wsL_law := zr_12 _ (List.mem_of_getElem? (i := 5) rfl)
theorem zv_X1_22 : zGS RX1 22 yJ9_floorMod_7cf53 cJ9_floorMod_7cf53 3 (some .int) 2 := ⟨zgs zL_X1_22 zT_J9_floorMod_7cf53 zN_J9 zO_J9_floorMod_7cf53, by decide +kernel⟩
theorem zL_X1_31 : Cond.methodLink RX1 31 yX1_lotAt ∈ wsL_law := zr_11 _ (List.mem_of_getElem? (i := 22) rfl)
theorem zO_X1_lotAt : Cond.code yX1_lotAt cX1_lotAt 2 (some (.object "StampWorks$Lot")) ∈ wsL_law := zr_12 _ (List.mem_of_getElem? (i := 1) rfl)
theorem zI_X1_lotAt : Cond.instanceMethod yX1_lotAt ∈ wsL_law := zr_11 _ (List.mem_of_getElem? (i := 23) rfl)
theorem zS_X1_lotAt : Cond.selects RX1 yX1_lotAt yX1_lotAt ∈ wsL_law := zr_12 _ (List.mem_of_getElem? (i := 0) rfl)
theorem zN_X1 : Cond.initialized RX1 ∈ wsL_law := zr_2 _ (List.mem_of_getElem? (i := 6) rfl)
theorem zv_X1_31 : zGV RX1 31 RX1 yX1_lotAt cX1_lotAt 2 (some (.object "StampWorks$Lot")) 1 := ⟨zgv zL_X1_31 zI_X1_lotAt zS_X1_lotAt zN_X1 zO_X1_lotAt, by decide +kernel⟩
theorem zL_X1_39 : Cond.methodLink RX1 39 yX3_become ∈ wsL_law := zr_12 _ (List.mem_of_getElem? (i := 7) rfl)
theorem zO_X3_become : Cond.code yX3_become cX3_become 3 none ∈ wsL_law := zr_12 _ (List.mem_of_getElem? (i := 10) rfl)
theorem zI_X3_become : Cond.instanceMethod yX3_become ∈ wsL_law := zr_12 _ (List.mem_of_getElem? (i := 8) rfl)
theorem zS_X3_become : Cond.selects RX3 yX3_become yX3_become ∈ wsL_law := zr_12 _ (List.mem_of_getElem? (i := 9) rfl)
theorem zv_X1_39 : zGV RX1 39 RX3 yX3_become cX3_become 3 none 2 := ⟨zgv zL_X1_39 zI_X3_become zS_X3_become zN_X3 zO_X3_become, by decide +kernel⟩
theorem zL_X1_48 : Cond.methodLink RX1 48 yX3_whole ∈ wsL_law := zr_17 _ (List.mem_of_getElem? (i := 5) rfl)
theorem zv_X1_48 : zGV RX1 48 RX3 yX3_whole cX3_whole 1 (some .int) 0 := ⟨zgv zL_X1_48 zI_X3_whole zS_X3_whole zN_X3 zO_X3_whole, by decide +kernel⟩
theorem zL_X1_52 : Cond.methodLink RX1 52 yX3_moveTo ∈ wsL_law := zr_16 _ (List.mem_of_getElem? (i := 16) rfl)
theorem zv_X1_52 : zGV RX1 52 RX3 yX3_moveTo cX3_moveTo 5 (some .int) 2 := ⟨zgv zL_X1_52 zI_X3_moveTo zS_X3_moveTo zN_X3 zO_X3_moveTo, by decide +kernel⟩
theorem zL_X1_56 : Cond.methodLink RX1 56 yX1_dropFirst ∈ wsL_law := zr_17 _ (List.mem_of_getElem? (i := 6) rfl)
theorem zO_X1_dropFirst : Cond.code yX1_dropFirst cX1_dropFirst 1 none ∈ wsL_law := zr_17 _ (List.mem_of_getElem? (i := 9) rfl)
theorem zI_X1_dropFirst : Cond.instanceMethod yX1_dropFirst ∈ wsL_law := zr_17 _ (List.mem_of_getElem? (i := 7) rfl)
theorem zS_X1_dropFirst : Cond.selects RX1 yX1_dropFirst yX1_dropFirst ∈ wsL_law := zr_17 _ (List.mem_of_getElem? (i := 8) rfl)
theorem zv_X1_56 : zGV RX1 56 RX1 yX1_dropFirst cX1_dropFirst 1 none 0 := ⟨zgv zL_X1_56 zI_X1_dropFirst zS_X1_dropFirst zN_X1 zO_X1_dropFirst, by decide +kernel⟩
theorem zL_X1_59 : Cond.methodLink RX1 59 yX2_copyLot ∈ wsL_law := zr_27 _ (List.mem_of_getElem? (i := 19) rfl)
theorem zO_X2_copyLot : Cond.code yX2_copyLot cX2_copyLot 2 none ∈ wsL_law := zr_27 _ (List.mem_of_getElem? (i := 22) rfl)
theorem zI_X2_copyLot : Cond.instanceMethod yX2_copyLot ∈ wsL_law := zr_27 _ (List.mem_of_getElem? (i := 20) rfl)
theorem zS_X2_copyLot : Cond.selects RX2 yX2_copyLot yX2_copyLot ∈ wsL_law := zr_27 _ (List.mem_of_getElem? (i := 21) rfl)
theorem zN_X2 : Cond.initialized RX2 ∈ wsL_law := zr_3 _ (List.mem_of_getElem? (i := 19) rfl)
theorem zv_X1_59 : zGV RX1 59 RX2 yX2_copyLot cX2_copyLot 2 none 1 := ⟨zgv zL_X1_59 zI_X2_copyLot zS_X2_copyLot zN_X2 zO_X2_copyLot, by decide +kernel⟩
theorem zL_X2_1 : Cond.methodLink RX2 1 objectInit ∈ wsL_law := zr_3 _ (List.mem_of_getElem? (i := 23) rfl)
theorem zL_X2_20 : Cond.methodLink RX2 20 yX3_tellOfOre ∈ wsL_law := zr_13 _ (List.mem_of_getElem? (i := 11) rfl)
theorem zO_X3_tellOfOre : Cond.code yX3_tellOfOre cX3_tellOfOre 2 (some .int) ∈ wsL_law := zr_13 _ (List.mem_of_getElem? (i := 14) rfl)
theorem zI_X3_tellOfOre : Cond.instanceMethod yX3_tellOfOre ∈ wsL_law := zr_13 _ (List.mem_of_getElem? (i := 12) rfl)
theorem zS_X3_tellOfOre : Cond.selects RX3 yX3_tellOfOre yX3_tellOfOre ∈ wsL_law := zr_13 _ (List.mem_of_getElem? (i := 13) rfl)
theorem zv_X2_20 : zGV RX2 20 RX3 yX3_tellOfOre cX3_tellOfOre 2 (some .int) 1 := ⟨zgv zL_X2_20 zI_X3_tellOfOre zS_X3_tellOfOre zN_X3 zO_X3_tellOfOre, by decide +kernel⟩
theorem zL_X2_24 : Cond.methodLink RX2 24 yX3_copyOre ∈ wsL_law := zr_27 _ (List.mem_of_getElem? (i := 23) rfl)
theorem zv_X2_24 : zGV RX2 24 RX3 yX3_copyOre cX3_copyOre 2 none 1 := ⟨zgv zL_X2_24 zI_X3_copyOre zS_X3_copyOre zN_X3 zO_X3_copyOre, by decide +kernel⟩
theorem zL_X3_1 : Cond.methodLink RX3 1 objectInit ∈ wsL_law := zr_3 _ (List.mem_of_getElem? (i := 11) rfl)
theorem zO_X6_gradeOf : Cond.code yX6_gradeOf cX6_gradeOf 2 (some .int) ∈ wsL_law := zr_13 _ (List.mem_of_getElem? (i := 16) rfl)
theorem zT_X6_gradeOf : Cond.static yX6_gradeOf ∈ wsL_law := zr_13 _ (List.mem_of_getElem? (i := 15) rfl)
theorem zv_X3_16 : zGN RX3 16 yX6_gradeOf cX6_gradeOf 2 (some .int) 2 := ⟨zgc zO_X6_gradeOf, znestM_at 4 rfl, zN_X6, zT_X6_gradeOf, by decide +kernel⟩
theorem zL_X3_22 : Cond.methodLink RX3 22 yX3_become ∈ wsL_law := zr_27 _ (List.mem_of_getElem? (i := 14) rfl)
theorem zv_X3_22 : zGV RX3 22 RX3 yX3_become cX3_become 3 none 2 := ⟨zgv zL_X3_22 zI_X3_become zS_X3_become zN_X3 zO_X3_become, by decide +kernel⟩
theorem zL_X3_26 : Cond.methodLink RX3 26 yX3_whole ∈ wsL_law := zr_16 _ (List.mem_of_getElem? (i := 21) rfl)
theorem zv_X3_26 : zGV RX3 26 RX3 yX3_whole cX3_whole 1 (some .int) 0 := ⟨zgv zL_X3_26 zI_X3_whole zS_X3_whole zN_X3 zO_X3_whole, by decide +kernel⟩
theorem zL_X3_30 : Cond.methodLink RX3 30 Lib.Math.min.name ∈ wsL_law := zr_16 _ (List.mem_of_getElem? (i := 20) rfl)
theorem zO_X6_partOf : Cond.code yX6_partOf cX6_partOf 3 (some .int) ∈ wsL_law := zr_13 _ (List.mem_of_getElem? (i := 19) rfl)
theorem zT_X6_partOf : Cond.static yX6_partOf ∈ wsL_law := zr_13 _ (List.mem_of_getElem? (i := 18) rfl)
theorem zv_X3_35 : zGN RX3 35 yX6_partOf cX6_partOf 3 (some .int) 3 := ⟨zgc zO_X6_partOf, znestM_at 5 rfl, zN_X6, zT_X6_partOf, by decide +kernel⟩
theorem zL_X3_39 : Cond.methodLink RX3 39 yX3_put ∈ wsL_law := zr_17 _ (List.mem_of_getElem? (i := 1) rfl)
theorem zO_X3_put : Cond.code yX3_put cX3_put 3 none ∈ wsL_law := zr_17 _ (List.mem_of_getElem? (i := 4) rfl)
theorem zI_X3_put : Cond.instanceMethod yX3_put ∈ wsL_law := zr_17 _ (List.mem_of_getElem? (i := 2) rfl)
theorem zS_X3_put : Cond.selects RX3 yX3_put yX3_put ∈ wsL_law := zr_17 _ (List.mem_of_getElem? (i := 3) rfl)
theorem zv_X3_39 : zGV RX3 39 RX3 yX3_put cX3_put 3 none 2 := ⟨zgv zL_X3_39 zI_X3_put zS_X3_put zN_X3 zO_X3_put, by decide +kernel⟩
theorem zL_X4_3 : Cond.methodLink RX4 3 objectInit ∈ wsL_law := zr_3 _ (List.mem_of_getElem? (i := 8) rfl)
theorem zL_X4_21 : Cond.methodLink RX4 21 Lib.Math.min.name ∈ wsL_law := zr_18 _ (List.mem_of_getElem? (i := 19) rfl)
theorem zL_X5_3 : Cond.methodLink RX5 3 objectInit ∈ wsL_law := zr_1 _ (List.mem_of_getElem? (i := 21) rfl)
theorem zL_X5_21 : Cond.methodLink RX5 21 yX0_init ∈ wsL_law := zr_2 _ (List.mem_of_getElem? (i := 16) rfl)
theorem zO_X0_init : Cond.code yX0_init cX0_init 2 none ∈ wsL_law := zr_2 _ (List.mem_of_getElem? (i := 18) rfl)
theorem zL_X5_24 : Cond.methodLink RX5 24 yX1_init ∈ wsL_law := zr_3 _ (List.mem_of_getElem? (i := 12) rfl)
theorem zO_X1_init : Cond.code yX1_init cX1_init 2 none ∈ wsL_law := zr_3 _ (List.mem_of_getElem? (i := 14) rfl)
theorem zL_X5_59 : Cond.methodLink RX5 59 yX1_oreOfLots ∈ wsL_law := zr_21 _ (List.mem_of_getElem? (i := 9) rfl)
theorem zO_X1_oreOfLots : Cond.code yX1_oreOfLots cX1_oreOfLots 3 (some .int) ∈ wsL_law := zr_21 _ (List.mem_of_getElem? (i := 12) rfl)
theorem zI_X1_oreOfLots : Cond.instanceMethod yX1_oreOfLots ∈ wsL_law := zr_21 _ (List.mem_of_getElem? (i := 10) rfl)
theorem zS_X1_oreOfLots : Cond.selects RX1 yX1_oreOfLots yX1_oreOfLots ∈ wsL_law := zr_21 _ (List.mem_of_getElem? (i := 11) rfl)
theorem zv_X5_59 : zGV RX5 59 RX1 yX1_oreOfLots cX1_oreOfLots 3 (some .int) 0 := ⟨zgv zL_X5_59 zI_X1_oreOfLots zS_X1_oreOfLots zN_X1 zO_X1_oreOfLots, by decide +kernel⟩
theorem zL_X5_63 : Cond.methodLink RX5 63 yX5_loadOfWheel ∈ wsL_law := zr_15 _ (List.mem_of_getElem? (i := 13) rfl)
theorem zO_X5_loadOfWheel : Cond.code yX5_loadOfWheel cX5_loadOfWheel 3 (some .int) ∈ wsL_law := zr_15 _ (List.mem_of_getElem? (i := 16) rfl)
theorem zI_X5_loadOfWheel : Cond.instanceMethod yX5_loadOfWheel ∈ wsL_law := zr_15 _ (List.mem_of_getElem? (i := 14) rfl)
theorem zS_X5_loadOfWheel : Cond.selects RX5 yX5_loadOfWheel yX5_loadOfWheel ∈ wsL_law := zr_15 _ (List.mem_of_getElem? (i := 15) rfl)
theorem zN_X5 : Cond.initialized RX5 ∈ wsL_law := zr_1 _ (List.mem_of_getElem? (i := 15) rfl)
theorem zv_X5_63 : zGV RX5 63 RX5 yX5_loadOfWheel cX5_loadOfWheel 3 (some .int) 0 := ⟨zgv zL_X5_63 zI_X5_loadOfWheel zS_X5_loadOfWheel zN_X5 zO_X5_loadOfWheel, by decide +kernel⟩
theorem zL_X5_78 : Cond.methodLink RX5 78 yX5_tinOfBoxes ∈ wsL_law := zr_21 _ (List.mem_of_getElem? (i := 13) rfl)
theorem zO_X5_tinOfBoxes : Cond.code yX5_tinOfBoxes cX5_tinOfBoxes 3 (some .int) ∈ wsL_law := zr_21 _ (List.mem_of_getElem? (i := 16) rfl)
theorem zI_X5_tinOfBoxes : Cond.instanceMethod yX5_tinOfBoxes ∈ wsL_law := zr_21 _ (List.mem_of_getElem? (i := 14) rfl)
theorem zS_X5_tinOfBoxes : Cond.selects RX5 yX5_tinOfBoxes yX5_tinOfBoxes ∈ wsL_law := zr_21 _ (List.mem_of_getElem? (i := 15) rfl)
theorem zv_X5_78 : zGV RX5 78 RX5 yX5_tinOfBoxes cX5_tinOfBoxes 3 (some .int) 0 := ⟨zgv zL_X5_78 zI_X5_tinOfBoxes zS_X5_tinOfBoxes zN_X5 zO_X5_tinOfBoxes, by decide +kernel⟩
theorem zL_X5_81 : Cond.methodLink RX5 81 yX0_loadOfStamps ∈ wsL_law := zr_15 _ (List.mem_of_getElem? (i := 17) rfl)
theorem zO_X0_loadOfStamps : Cond.code yX0_loadOfStamps cX0_loadOfStamps 3 (some .int) ∈ wsL_law := zr_15 _ (List.mem_of_getElem? (i := 20) rfl)
theorem zI_X0_loadOfStamps : Cond.instanceMethod yX0_loadOfStamps ∈ wsL_law := zr_15 _ (List.mem_of_getElem? (i := 18) rfl)
theorem zS_X0_loadOfStamps : Cond.selects RX0 yX0_loadOfStamps yX0_loadOfStamps ∈ wsL_law := zr_15 _ (List.mem_of_getElem? (i := 19) rfl)
theorem zv_X5_81 : zGV RX5 81 RX0 yX0_loadOfStamps cX0_loadOfStamps 3 (some .int) 0 := ⟨zgv zL_X5_81 zI_X0_loadOfStamps zS_X0_loadOfStamps zN_X0 zO_X0_loadOfStamps, by decide +kernel⟩
theorem zL_X5_84 : Cond.methodLink RX5 84 yX0_tinOfSizes ∈ wsL_law := zr_21 _ (List.mem_of_getElem? (i := 17) rfl)
theorem zO_X0_tinOfSizes : Cond.code yX0_tinOfSizes cX0_tinOfSizes 1 (some .int) ∈ wsL_law := zr_21 _ (List.mem_of_getElem? (i := 20) rfl)
theorem zI_X0_tinOfSizes : Cond.instanceMethod yX0_tinOfSizes ∈ wsL_law := zr_21 _ (List.mem_of_getElem? (i := 18) rfl)
theorem zS_X0_tinOfSizes : Cond.selects RX0 yX0_tinOfSizes yX0_tinOfSizes ∈ wsL_law := zr_21 _ (List.mem_of_getElem? (i := 19) rfl)
theorem zv_X5_84 : zGV RX5 84 RX0 yX0_tinOfSizes cX0_tinOfSizes 1 (some .int) 0 := ⟨zgv zL_X5_84 zI_X0_tinOfSizes zS_X0_tinOfSizes zN_X0 zO_X0_tinOfSizes, by decide +kernel⟩
theorem zL_X5_87 : Cond.methodLink RX5 87 yX5_passHour ∈ wsL_law := zr_14 _ (List.mem_of_getElem? (i := 19) rfl)
theorem zO_X5_passHour : Cond.code yX5_passHour cX5_passHour 4 (some .int) ∈ wsL_law := zr_14 _ (List.mem_of_getElem? (i := 22) rfl)
theorem zI_X5_passHour : Cond.instanceMethod yX5_passHour ∈ wsL_law := zr_14 _ (List.mem_of_getElem? (i := 20) rfl)
theorem zS_X5_passHour : Cond.selects RX5 yX5_passHour yX5_passHour ∈ wsL_law := zr_14 _ (List.mem_of_getElem? (i := 21) rfl)
theorem zv_X5_87 : zGV RX5 87 RX5 yX5_passHour cX5_passHour 4 (some .int) 0 := ⟨zgv zL_X5_87 zI_X5_passHour zS_X5_passHour zN_X5 zO_X5_passHour, by decide +kernel⟩
theorem zL_X5_90 : Cond.methodLink RX5 90 yX5_takeWater ∈ wsL_law := zr_15 _ (List.mem_of_getElem? (i := 5) rfl)
theorem zO_X5_takeWater : Cond.code yX5_takeWater cX5_takeWater 3 (some .int) ∈ wsL_law := zr_15 _ (List.mem_of_getElem? (i := 8) rfl)
theorem zI_X5_takeWater : Cond.instanceMethod yX5_takeWater ∈ wsL_law := zr_15 _ (List.mem_of_getElem? (i := 6) rfl)
theorem zS_X5_takeWater : Cond.selects RX5 yX5_takeWater yX5_takeWater ∈ wsL_law := zr_15 _ (List.mem_of_getElem? (i := 7) rfl)
theorem zv_X5_90 : zGV RX5 90 RX5 yX5_takeWater cX5_takeWater 3 (some .int) 0 := ⟨zgv zL_X5_90 zI_X5_takeWater zS_X5_takeWater zN_X5 zO_X5_takeWater, by decide +kernel⟩
theorem zL_X5_93 : Cond.methodLink RX5 93 Lib.Math.max.name ∈ wsL_law := zr_14 _ (List.mem_of_getElem? (i := 23) rfl)
theorem zL_X5_99 : Cond.methodLink RX5 99 yX5_workBox ∈ wsL_law := zr_16 _ (List.mem_of_getElem? (i := 3) rfl)
theorem zO_X5_workBox : Cond.code yX5_workBox cX5_workBox 4 none ∈ wsL_law := zr_16 _ (List.mem_of_getElem? (i := 6) rfl)
theorem zI_X5_workBox : Cond.instanceMethod yX5_workBox ∈ wsL_law := zr_16 _ (List.mem_of_getElem? (i := 4) rfl)
theorem zS_X5_workBox : Cond.selects RX5 yX5_workBox yX5_workBox ∈ wsL_law := zr_16 _ (List.mem_of_getElem? (i := 5) rfl)
theorem zv_X5_99 : zGV RX5 99 RX5 yX5_workBox cX5_workBox 4 none 3 := ⟨zgv zL_X5_99 zI_X5_workBox zS_X5_workBox zN_X5 zO_X5_workBox, by decide +kernel⟩
theorem zL_X5_103 : Cond.methodLink RX5 103 yJ9_floorMod_7cf53 ∈ wsL_law := zr_15 _ (List.mem_of_getElem? (i := 12) rfl)
theorem zv_X5_103 : zGS RX5 103 yJ9_floorMod_7cf53 cJ9_floorMod_7cf53 3 (some .int) 2 := ⟨zgs zL_X5_103 zT_J9_floorMod_7cf53 zN_J9 zO_J9_floorMod_7cf53, by decide +kernel⟩
theorem zL_X5_106 : Cond.methodLink RX5 106 Lib.Math.min.name ∈ wsL_law := zr_15 _ (List.mem_of_getElem? (i := 9) rfl)
theorem zL_X5_118 : Cond.methodLink RX5 118 yX1_feedInto ∈ wsL_law := zr_16 _ (List.mem_of_getElem? (i := 12) rfl)
theorem zO_X1_feedInto : Cond.code yX1_feedInto cX1_feedInto 8 (some .int) ∈ wsL_law := zr_16 _ (List.mem_of_getElem? (i := 15) rfl)
theorem zI_X1_feedInto : Cond.instanceMethod yX1_feedInto ∈ wsL_law := zr_16 _ (List.mem_of_getElem? (i := 13) rfl)
theorem zS_X1_feedInto : Cond.selects RX1 yX1_feedInto yX1_feedInto ∈ wsL_law := zr_16 _ (List.mem_of_getElem? (i := 14) rfl)
theorem zv_X5_118 : zGV RX5 118 RX1 yX1_feedInto cX1_feedInto 8 (some .int) 3 := ⟨zgv zL_X5_118 zI_X1_feedInto zS_X1_feedInto zN_X1 zO_X1_feedInto, by decide +kernel⟩
theorem zL_X5_122 : Cond.methodLink RX5 122 yX0_blow ∈ wsL_law := zr_17 _ (List.mem_of_getElem? (i := 10) rfl)
theorem zO_X0_blow : Cond.code yX0_blow cX0_blow 3 none ∈ wsL_law := zr_17 _ (List.mem_of_getElem? (i := 13) rfl)
theorem zI_X0_blow : Cond.instanceMethod yX0_blow ∈ wsL_law := zr_17 _ (List.mem_of_getElem? (i := 11) rfl)
theorem zS_X0_blow : Cond.selects RX0 yX0_blow yX0_blow ∈ wsL_law := zr_17 _ (List.mem_of_getElem? (i := 12) rfl)
theorem zv_X5_122 : zGV RX5 122 RX0 yX0_blow cX0_blow 3 none 1 := ⟨zgv zL_X5_122 zI_X0_blow zS_X0_blow zN_X0 zO_X0_blow, by decide +kernel⟩
theorem zL_X5_126 : Cond.methodLink RX5 126 yX0_loseSlime ∈ wsL_law := zr_18 _ (List.mem_of_getElem? (i := 1) rfl)
theorem zO_X0_loseSlime : Cond.code yX0_loseSlime cX0_loseSlime 2 (some .int) ∈ wsL_law := zr_18 _ (List.mem_of_getElem? (i := 4) rfl)
theorem zI_X0_loseSlime : Cond.instanceMethod yX0_loseSlime ∈ wsL_law := zr_18 _ (List.mem_of_getElem? (i := 2) rfl)
theorem zS_X0_loseSlime : Cond.selects RX0 yX0_loseSlime yX0_loseSlime ∈ wsL_law := zr_18 _ (List.mem_of_getElem? (i := 3) rfl)
theorem zv_X5_126 : zGV RX5 126 RX0 yX0_loseSlime cX0_loseSlime 2 (some .int) 0 := ⟨zgv zL_X5_126 zI_X0_loseSlime zS_X0_loseSlime zN_X0 zO_X0_loseSlime, by decide +kernel⟩
theorem zL_X5_132 : Cond.methodLink RX5 132 yX0_grate ∈ wsL_law := zr_18 _ (List.mem_of_getElem? (i := 6) rfl)
theorem zO_X0_grate : Cond.code yX0_grate cX0_grate 3 none ∈ wsL_law := zr_18 _ (List.mem_of_getElem? (i := 9) rfl)
theorem zI_X0_grate : Cond.instanceMethod yX0_grate ∈ wsL_law := zr_18 _ (List.mem_of_getElem? (i := 7) rfl)
theorem zS_X0_grate : Cond.selects RX0 yX0_grate yX0_grate ∈ wsL_law := zr_18 _ (List.mem_of_getElem? (i := 8) rfl)
theorem zv_X5_132 : zGV RX5 132 RX0 yX0_grate cX0_grate 3 none 2 := ⟨zgv zL_X5_132 zI_X0_grate zS_X0_grate zN_X0 zO_X0_grate, by decide +kernel⟩
theorem zL_X5_136 : Cond.methodLink RX5 136 yX0_wearStamps ∈ wsL_law := zr_18 _ (List.mem_of_getElem? (i := 11) rfl)
theorem zO_X0_wearStamps : Cond.code yX0_wearStamps cX0_wearStamps 3 none ∈ wsL_law := zr_18 _ (List.mem_of_getElem? (i := 14) rfl)
theorem zI_X0_wearStamps : Cond.instanceMethod yX0_wearStamps ∈ wsL_law := zr_18 _ (List.mem_of_getElem? (i := 12) rfl)
theorem zS_X0_wearStamps : Cond.selects RX0 yX0_wearStamps yX0_wearStamps ∈ wsL_law := zr_18 _ (List.mem_of_getElem? (i := 13) rfl)
theorem zv_X5_136 : zGV RX5 136 RX0 yX0_wearStamps cX0_wearStamps 3 none 1 := ⟨zgv zL_X5_136 zI_X0_wearStamps zS_X0_wearStamps zN_X0 zO_X0_wearStamps, by decide +kernel⟩
theorem zO_X6_rockOfHead : Cond.code yX6_rockOfHead cX6_rockOfHead 2 (some .int) ∈ wsL_law := zr_24 _ (List.mem_of_getElem? (i := 7) rfl)
theorem zT_X6_rockOfHead : Cond.static yX6_rockOfHead ∈ wsL_law := zr_24 _ (List.mem_of_getElem? (i := 6) rfl)
theorem zv_X5_139 : zGN RX5 139 yX6_rockOfHead cX6_rockOfHead 2 (some .int) 2 := ⟨zgc zO_X6_rockOfHead, znestM_at 6 rfl, zN_X6, zT_X6_rockOfHead, by decide +kernel⟩
theorem zO_X6_tinOfHead : Cond.code yX6_tinOfHead cX6_tinOfHead 2 (some .int) ∈ wsL_law := zr_24 _ (List.mem_of_getElem? (i := 9) rfl)
theorem zT_X6_tinOfHead : Cond.static yX6_tinOfHead ∈ wsL_law := zr_24 _ (List.mem_of_getElem? (i := 8) rfl)
theorem zv_X5_142 : zGN RX5 142 yX6_tinOfHead cX6_tinOfHead 2 (some .int) 2 := ⟨zgc zO_X6_tinOfHead, znestM_at 7 rfl, zN_X6, zT_X6_tinOfHead, by decide +kernel⟩
theorem zL_X5_145 : Cond.methodLink RX5 145 yX3_put ∈ wsL_law := zr_24 _ (List.mem_of_getElem? (i := 10) rfl)
theorem zv_X5_145 : zGV RX5 145 RX3 yX3_put cX3_put 3 none 2 := ⟨zgv zL_X5_145 zI_X3_put zS_X3_put zN_X3 zO_X3_put, by decide +kernel⟩
theorem zL_X5_149 : Cond.methodLink RX5 149 yX1_addLot ∈ wsL_law := zr_24 _ (List.mem_of_getElem? (i := 11) rfl)
theorem zO_X1_addLot : Cond.code yX1_addLot cX1_addLot 5 none ∈ wsL_law := zr_11 _ (List.mem_of_getElem? (i := 18) rfl)
theorem zI_X1_addLot : Cond.instanceMethod yX1_addLot ∈ wsL_law := zr_11 _ (List.mem_of_getElem? (i := 16) rfl)
theorem zS_X1_addLot : Cond.selects RX1 yX1_addLot yX1_addLot ∈ wsL_law := zr_11 _ (List.mem_of_getElem? (i := 17) rfl)
theorem zv_X5_149 : zGV RX5 149 RX1 yX1_addLot cX1_addLot 5 none 3 := ⟨zgv zL_X5_149 zI_X1_addLot zS_X1_addLot zN_X1 zO_X1_addLot, by decide +kernel⟩
theorem zL_X5_153 : Cond.methodLink RX5 153 yX3_become ∈ wsL_law := zr_24 _ (List.mem_of_getElem? (i := 12) rfl)
theorem zv_X5_153 : zGV RX5 153 RX3 yX3_become cX3_become 3 none 2 := ⟨zgv zL_X5_153 zI_X3_become zS_X3_become zN_X3 zO_X3_become, by decide +kernel⟩
theorem zL_X5_156 : Cond.methodLink RX5 156 yX3_whole ∈ wsL_law := zr_26 _ (List.mem_of_getElem? (i := 4) rfl)
theorem zv_X5_156 : zGV RX5 156 RX3 yX3_whole cX3_whole 1 (some .int) 0 := ⟨zgv zL_X5_156 zI_X3_whole zS_X3_whole zN_X3 zO_X3_whole, by decide +kernel⟩
theorem zv_X5_159 : zGN RX5 159 yX6_partOf cX6_partOf 3 (some .int) 3 := ⟨zgc zO_X6_partOf, znestM_at 8 rfl, zN_X6, zT_X6_partOf, by decide +kernel⟩
theorem zv_X5_163 : zGN RX5 163 yX6_gradeOf cX6_gradeOf 2 (some .int) 2 := ⟨zgc zO_X6_gradeOf, znestM_at 9 rfl, zN_X6, zT_X6_gradeOf, by decide +kernel⟩
theorem zL_X5_166 : Cond.methodLink RX5 166 arraycopyName ∈ wsL_law := zr_26 _ (List.mem_of_getElem? (i := 22) rfl)
theorem zL_X5_172 : Cond.methodLink RX5 172 yX0_copyBox ∈ wsL_law := zr_27 _ (List.mem_of_getElem? (i := 2) rfl)
theorem zO_X0_copyBox : Cond.code yX0_copyBox cX0_copyBox 3 none ∈ wsL_law := zr_27 _ (List.mem_of_getElem? (i := 5) rfl)
theorem zI_X0_copyBox : Cond.instanceMethod yX0_copyBox ∈ wsL_law := zr_27 _ (List.mem_of_getElem? (i := 3) rfl)
theorem zS_X0_copyBox : Cond.selects RX0 yX0_copyBox yX0_copyBox ∈ wsL_law := zr_27 _ (List.mem_of_getElem? (i := 4) rfl)
theorem zv_X5_172 : zGV RX5 172 RX0 yX0_copyBox cX0_copyBox 3 none 1 := ⟨zgv zL_X5_172 zI_X0_copyBox zS_X0_copyBox zN_X0 zO_X0_copyBox, by decide +kernel⟩
theorem zL_X5_176 : Cond.methodLink RX5 176 yX1_copyHopper ∈ wsL_law := zr_27 _ (List.mem_of_getElem? (i := 15) rfl)
theorem zO_X1_copyHopper : Cond.code yX1_copyHopper cX1_copyHopper 3 none ∈ wsL_law := zr_27 _ (List.mem_of_getElem? (i := 18) rfl)
theorem zI_X1_copyHopper : Cond.instanceMethod yX1_copyHopper ∈ wsL_law := zr_27 _ (List.mem_of_getElem? (i := 16) rfl)
theorem zS_X1_copyHopper : Cond.selects RX1 yX1_copyHopper yX1_copyHopper ∈ wsL_law := zr_27 _ (List.mem_of_getElem? (i := 17) rfl)
theorem zv_X5_176 : zGV RX5 176 RX1 yX1_copyHopper cX1_copyHopper 3 none 1 := ⟨zgv zL_X5_176 zI_X1_copyHopper zS_X1_copyHopper zN_X1 zO_X1_copyHopper, by decide +kernel⟩
theorem zL_X5_180 : Cond.methodLink RX5 180 yX3_copyOre ∈ wsL_law := zr_28 _ (List.mem_of_getElem? (i := 0) rfl)
theorem zv_X5_180 : zGV RX5 180 RX3 yX3_copyOre cX3_copyOre 2 none 1 := ⟨zgv zL_X5_180 zI_X3_copyOre zS_X3_copyOre zN_X3 zO_X3_copyOre, by decide +kernel⟩
theorem zL_X6_1 : Cond.methodLink RX6 1 objectInit ∈ wsL_law := zr_1 _ (List.mem_of_getElem? (i := 10) rfl)
theorem zL_X6_9 : Cond.methodLink RX6 9 yX5_init ∈ wsL_law := zr_1 _ (List.mem_of_getElem? (i := 18) rfl)
theorem zO_X5_init : Cond.code yX5_init cX5_init 2 none ∈ wsL_law := zr_1 _ (List.mem_of_getElem? (i := 20) rfl)
theorem zL_X6_49 : Cond.methodLink RX6 49 yX6_boxNumbered ∈ wsL_law := zr_8 _ (List.mem_of_getElem? (i := 0) rfl)
theorem zO_X6_boxNumbered : Cond.code yX6_boxNumbered cX6_boxNumbered 2 (some (.object "StampWorks$Box")) ∈ wsL_law := zr_8 _ (List.mem_of_getElem? (i := 3) rfl)
theorem zI_X6_boxNumbered : Cond.instanceMethod yX6_boxNumbered ∈ wsL_law := zr_8 _ (List.mem_of_getElem? (i := 1) rfl)
theorem zS_X6_boxNumbered : Cond.selects RX6 yX6_boxNumbered yX6_boxNumbered ∈ wsL_law := zr_8 _ (List.mem_of_getElem? (i := 2) rfl)
theorem zv_X6_49 : zGV RX6 49 RX6 yX6_boxNumbered cX6_boxNumbered 2 (some (.object "StampWorks$Box")) 1 := ⟨zgv zL_X6_49 zI_X6_boxNumbered zS_X6_boxNumbered zN_X6 zO_X6_boxNumbered, by decide +kernel⟩
theorem zL_X6_64 : Cond.methodLink RX6 64 yX0_addStamp ∈ wsL_law := zr_8 _ (List.mem_of_getElem? (i := 5) rfl)
theorem zO_X0_addStamp : Cond.code yX0_addStamp cX0_addStamp 4 none ∈ wsL_law := zr_8 _ (List.mem_of_getElem? (i := 8) rfl)
theorem zI_X0_addStamp : Cond.instanceMethod yX0_addStamp ∈ wsL_law := zr_8 _ (List.mem_of_getElem? (i := 6) rfl)
theorem zS_X0_addStamp : Cond.selects RX0 yX0_addStamp yX0_addStamp ∈ wsL_law := zr_8 _ (List.mem_of_getElem? (i := 7) rfl)
theorem zv_X6_64 : zGV RX6 64 RX0 yX0_addStamp cX0_addStamp 4 none 2 := ⟨zgv zL_X6_64 zI_X0_addStamp zS_X0_addStamp zN_X0 zO_X0_addStamp, by decide +kernel⟩
theorem zL_X6_91 : Cond.methodLink RX6 91 yX0_tellOfBox ∈ wsL_law := zr_10 _ (List.mem_of_getElem? (i := 5) rfl)
theorem zO_X0_tellOfBox : Cond.code yX0_tellOfBox cX0_tellOfBox 2 (some .int) ∈ wsL_law := zr_10 _ (List.mem_of_getElem? (i := 8) rfl)
theorem zI_X0_tellOfBox : Cond.instanceMethod yX0_tellOfBox ∈ wsL_law := zr_10 _ (List.mem_of_getElem? (i := 6) rfl)
theorem zS_X0_tellOfBox : Cond.selects RX0 yX0_tellOfBox yX0_tellOfBox ∈ wsL_law := zr_10 _ (List.mem_of_getElem? (i := 7) rfl)
theorem zv_X6_91 : zGV RX6 91 RX0 yX0_tellOfBox cX0_tellOfBox 2 (some .int) 1 := ⟨zgv zL_X6_91 zI_X0_tellOfBox zS_X0_tellOfBox zN_X0 zO_X0_tellOfBox, by decide +kernel⟩
theorem zL_X6_101 : Cond.methodLink RX6 101 yX6_refuseFullHopper ∈ wsL_law := zr_11 _ (List.mem_of_getElem? (i := 11) rfl)
theorem zO_X6_refuseFullHopper : Cond.code yX6_refuseFullHopper cX6_refuseFullHopper 1 none ∈ wsL_law := zr_11 _ (List.mem_of_getElem? (i := 14) rfl)
theorem zI_X6_refuseFullHopper : Cond.instanceMethod yX6_refuseFullHopper ∈ wsL_law := zr_11 _ (List.mem_of_getElem? (i := 12) rfl)
theorem zS_X6_refuseFullHopper : Cond.selects RX6 yX6_refuseFullHopper yX6_refuseFullHopper ∈ wsL_law := zr_11 _ (List.mem_of_getElem? (i := 13) rfl)
theorem zv_X6_101 : zGV RX6 101 RX6 yX6_refuseFullHopper cX6_refuseFullHopper 1 none 0 := ⟨zgv zL_X6_101 zI_X6_refuseFullHopper zS_X6_refuseFullHopper zN_X6 zO_X6_refuseFullHopper, by decide +kernel⟩
theorem zL_X6_108 : Cond.methodLink RX6 108 yX1_addLot ∈ wsL_law := zr_11 _ (List.mem_of_getElem? (i := 15) rfl)
theorem zv_X6_108 : zGV RX6 108 RX1 yX1_addLot cX1_addLot 5 none 3 := ⟨zgv zL_X6_108 zI_X1_addLot zS_X1_addLot zN_X1 zO_X1_addLot, by decide +kernel⟩
theorem zL_X6_121 : Cond.methodLink RX6 121 yX1_lotAt ∈ wsL_law := zr_13 _ (List.mem_of_getElem? (i := 5) rfl)
theorem zv_X6_121 : zGV RX6 121 RX1 yX1_lotAt cX1_lotAt 2 (some (.object "StampWorks$Lot")) 1 := ⟨zgv zL_X6_121 zI_X1_lotAt zS_X1_lotAt zN_X1 zO_X1_lotAt, by decide +kernel⟩
theorem zL_X6_125 : Cond.methodLink RX6 125 yX2_tellOfLot ∈ wsL_law := zr_13 _ (List.mem_of_getElem? (i := 6) rfl)
theorem zO_X2_tellOfLot : Cond.code yX2_tellOfLot cX2_tellOfLot 2 (some .int) ∈ wsL_law := zr_13 _ (List.mem_of_getElem? (i := 9) rfl)
theorem zI_X2_tellOfLot : Cond.instanceMethod yX2_tellOfLot ∈ wsL_law := zr_13 _ (List.mem_of_getElem? (i := 7) rfl)
theorem zS_X2_tellOfLot : Cond.selects RX2 yX2_tellOfLot yX2_tellOfLot ∈ wsL_law := zr_13 _ (List.mem_of_getElem? (i := 8) rfl)
theorem zv_X6_125 : zGV RX6 125 RX2 yX2_tellOfLot cX2_tellOfLot 2 (some .int) 1 := ⟨zgv zL_X6_125 zI_X2_tellOfLot zS_X2_tellOfLot zN_X2 zO_X2_tellOfLot, by decide +kernel⟩
theorem zL_X6_130 : Cond.methodLink RX6 130 yX6_refuseHours ∈ wsL_law := zr_14 _ (List.mem_of_getElem? (i := 7) rfl)
theorem zO_X6_refuseHours : Cond.code yX6_refuseHours cX6_refuseHours 2 none ∈ wsL_law := zr_14 _ (List.mem_of_getElem? (i := 9) rfl)
theorem zT_X6_refuseHours : Cond.static yX6_refuseHours ∈ wsL_law := zr_14 _ (List.mem_of_getElem? (i := 8) rfl)
theorem zv_X6_130 : zGS RX6 130 yX6_refuseHours cX6_refuseHours 2 none 2 := ⟨zgs zL_X6_130 zT_X6_refuseHours zN_X6 zO_X6_refuseHours, by decide +kernel⟩
theorem zL_X6_133 : Cond.methodLink RX6 133 yX6_refuseLateHour ∈ wsL_law := zr_14 _ (List.mem_of_getElem? (i := 10) rfl)
theorem zO_X6_refuseLateHour : Cond.code yX6_refuseLateHour cX6_refuseLateHour 2 none ∈ wsL_law := zr_14 _ (List.mem_of_getElem? (i := 13) rfl)
theorem zI_X6_refuseLateHour : Cond.instanceMethod yX6_refuseLateHour ∈ wsL_law := zr_14 _ (List.mem_of_getElem? (i := 11) rfl)
theorem zS_X6_refuseLateHour : Cond.selects RX6 yX6_refuseLateHour yX6_refuseLateHour ∈ wsL_law := zr_14 _ (List.mem_of_getElem? (i := 12) rfl)
theorem zv_X6_133 : zGV RX6 133 RX6 yX6_refuseLateHour cX6_refuseLateHour 2 none 1 := ⟨zgv zL_X6_133 zI_X6_refuseLateHour zS_X6_refuseLateHour zN_X6 zO_X6_refuseLateHour, by decide +kernel⟩
theorem zL_X6_137 : Cond.methodLink RX6 137 yX5_passHours ∈ wsL_law := zr_14 _ (List.mem_of_getElem? (i := 15) rfl)
theorem zO_X5_passHours : Cond.code yX5_passHours cX5_passHours 4 (some .int) ∈ wsL_law := zr_14 _ (List.mem_of_getElem? (i := 18) rfl)
theorem zI_X5_passHours : Cond.instanceMethod yX5_passHours ∈ wsL_law := zr_14 _ (List.mem_of_getElem? (i := 16) rfl)
theorem zS_X5_passHours : Cond.selects RX5 yX5_passHours yX5_passHours ∈ wsL_law := zr_14 _ (List.mem_of_getElem? (i := 17) rfl)
theorem zv_X6_137 : zGV RX6 137 RX5 yX5_passHours cX5_passHours 4 (some .int) 1 := ⟨zgv zL_X6_137 zI_X5_passHours zS_X5_passHours zN_X5 zO_X5_passHours, by decide +kernel⟩
theorem zL_X6_142 : Cond.methodLink RX6 142 yX5_tellOfWorks ∈ wsL_law := zr_21 _ (List.mem_of_getElem? (i := 1) rfl)
theorem zO_X5_tellOfWorks : Cond.code yX5_tellOfWorks cX5_tellOfWorks 2 (some .int) ∈ wsL_law := zr_21 _ (List.mem_of_getElem? (i := 4) rfl)
theorem zI_X5_tellOfWorks : Cond.instanceMethod yX5_tellOfWorks ∈ wsL_law := zr_21 _ (List.mem_of_getElem? (i := 2) rfl)
theorem zS_X5_tellOfWorks : Cond.selects RX5 yX5_tellOfWorks yX5_tellOfWorks ∈ wsL_law := zr_21 _ (List.mem_of_getElem? (i := 3) rfl)
theorem zv_X6_142 : zGV RX6 142 RX5 yX5_tellOfWorks cX5_tellOfWorks 2 (some .int) 1 := ⟨zgv zL_X6_142 zI_X5_tellOfWorks zS_X5_tellOfWorks zN_X5 zO_X5_tellOfWorks, by decide +kernel⟩
theorem zL_X6_145 : Cond.methodLink RX6 145 yX6_buddleNumbered ∈ wsL_law := zr_23 _ (List.mem_of_getElem? (i := 0) rfl)
theorem zO_X6_buddleNumbered : Cond.code yX6_buddleNumbered cX6_buddleNumbered 2 (some (.object "StampWorks$Ore")) ∈ wsL_law := zr_23 _ (List.mem_of_getElem? (i := 3) rfl)
theorem zI_X6_buddleNumbered : Cond.instanceMethod yX6_buddleNumbered ∈ wsL_law := zr_23 _ (List.mem_of_getElem? (i := 1) rfl)
theorem zS_X6_buddleNumbered : Cond.selects RX6 yX6_buddleNumbered yX6_buddleNumbered ∈ wsL_law := zr_23 _ (List.mem_of_getElem? (i := 2) rfl)
theorem zv_X6_145 : zGV RX6 145 RX6 yX6_buddleNumbered cX6_buddleNumbered 2 (some (.object "StampWorks$Ore")) 1 := ⟨zgv zL_X6_145 zI_X6_buddleNumbered zS_X6_buddleNumbered zN_X6 zO_X6_buddleNumbered, by decide +kernel⟩
theorem zL_X6_151 : Cond.methodLink RX6 151 yX3_tellOfOre ∈ wsL_law := zr_23 _ (List.mem_of_getElem? (i := 5) rfl)
theorem zv_X6_151 : zGV RX6 151 RX3 yX3_tellOfOre cX3_tellOfOre 2 (some .int) 1 := ⟨zgv zL_X6_151 zI_X3_tellOfOre zS_X3_tellOfOre zN_X3 zO_X3_tellOfOre, by decide +kernel⟩
theorem zL_X6_158 : Cond.methodLink RX6 158 yX3_whole ∈ wsL_law := zr_24 _ (List.mem_of_getElem? (i := 1) rfl)
theorem zv_X6_158 : zGV RX6 158 RX3 yX3_whole cX3_whole 1 (some .int) 0 := ⟨zgv zL_X6_158 zI_X3_whole zS_X3_whole zN_X3 zO_X3_whole, by decide +kernel⟩
theorem zL_X6_164 : Cond.methodLink RX6 164 yX5_partByWater ∈ wsL_law := zr_24 _ (List.mem_of_getElem? (i := 2) rfl)
theorem zO_X5_partByWater : Cond.code yX5_partByWater cX5_partByWater 9 (some .int) ∈ wsL_law := zr_24 _ (List.mem_of_getElem? (i := 5) rfl)
theorem zI_X5_partByWater : Cond.instanceMethod yX5_partByWater ∈ wsL_law := zr_24 _ (List.mem_of_getElem? (i := 3) rfl)
theorem zS_X5_partByWater : Cond.selects RX5 yX5_partByWater yX5_partByWater ∈ wsL_law := zr_24 _ (List.mem_of_getElem? (i := 4) rfl)
theorem zv_X6_164 : zGV RX6 164 RX5 yX5_partByWater cX5_partByWater 9 (some .int) 2 := ⟨zgv zL_X6_164 zI_X5_partByWater zS_X5_partByWater zN_X5 zO_X5_partByWater, by decide +kernel⟩
theorem zL_X6_172 : Cond.methodLink RX6 172 yX3_moveTo ∈ wsL_law := zr_25 _ (List.mem_of_getElem? (i := 10) rfl)
theorem zv_X6_172 : zGV RX6 172 RX3 yX3_moveTo cX3_moveTo 5 (some .int) 2 := ⟨zgv zL_X6_172 zI_X3_moveTo zS_X3_moveTo zN_X3 zO_X3_moveTo, by decide +kernel⟩
theorem zL_X6_179 : Cond.methodLink RX6 179 yX5_smeltFromStore ∈ wsL_law := zr_26 _ (List.mem_of_getElem? (i := 0) rfl)
theorem zO_X5_smeltFromStore : Cond.code yX5_smeltFromStore cX5_smeltFromStore 5 (some .int) ∈ wsL_law := zr_26 _ (List.mem_of_getElem? (i := 3) rfl)
theorem zI_X5_smeltFromStore : Cond.instanceMethod yX5_smeltFromStore ∈ wsL_law := zr_26 _ (List.mem_of_getElem? (i := 1) rfl)
theorem zS_X5_smeltFromStore : Cond.selects RX5 yX5_smeltFromStore yX5_smeltFromStore ∈ wsL_law := zr_26 _ (List.mem_of_getElem? (i := 2) rfl)
theorem zv_X6_179 : zGV RX6 179 RX5 yX5_smeltFromStore cX5_smeltFromStore 5 (some .int) 1 := ⟨zgv zL_X6_179 zI_X5_smeltFromStore zS_X5_smeltFromStore zN_X5 zO_X5_smeltFromStore, by decide +kernel⟩
theorem zL_X6_184 : Cond.methodLink RX6 184 yX5_copyWorks ∈ wsL_law := zr_26 _ (List.mem_of_getElem? (i := 18) rfl)
theorem zO_X5_copyWorks : Cond.code yX5_copyWorks cX5_copyWorks 3 none ∈ wsL_law := zr_26 _ (List.mem_of_getElem? (i := 21) rfl)
theorem zI_X5_copyWorks : Cond.instanceMethod yX5_copyWorks ∈ wsL_law := zr_26 _ (List.mem_of_getElem? (i := 19) rfl)
theorem zS_X5_copyWorks : Cond.selects RX5 yX5_copyWorks yX5_copyWorks ∈ wsL_law := zr_26 _ (List.mem_of_getElem? (i := 20) rfl)
theorem zv_X6_184 : zGV RX6 184 RX5 yX5_copyWorks cX5_copyWorks 3 none 1 := ⟨zgv zL_X6_184 zI_X5_copyWorks zS_X5_copyWorks zN_X5 zO_X5_copyWorks, by decide +kernel⟩
theorem zL_X6_191 : Cond.methodLink RX6 191 yX5_tinOfBuddles ∈ wsL_law := zr_28 _ (List.mem_of_getElem? (i := 1) rfl)
theorem zO_X5_tinOfBuddles : Cond.code yX5_tinOfBuddles cX5_tinOfBuddles 3 (some .int) ∈ wsL_law := zr_28 _ (List.mem_of_getElem? (i := 4) rfl)
theorem zI_X5_tinOfBuddles : Cond.instanceMethod yX5_tinOfBuddles ∈ wsL_law := zr_28 _ (List.mem_of_getElem? (i := 2) rfl)
theorem zS_X5_tinOfBuddles : Cond.selects RX5 yX5_tinOfBuddles yX5_tinOfBuddles ∈ wsL_law := zr_28 _ (List.mem_of_getElem? (i := 3) rfl)
theorem zv_X6_191 : zGV RX6 191 RX5 yX5_tinOfBuddles cX5_tinOfBuddles 3 (some .int) 0 := ⟨zgv zL_X6_191 zI_X5_tinOfBuddles zS_X5_tinOfBuddles zN_X5 zO_X5_tinOfBuddles, by decide +kernel⟩
theorem zL_X6_197 : Cond.methodLink RX6 197 yX1_oreOfLots ∈ wsL_law := zr_28 _ (List.mem_of_getElem? (i := 5) rfl)
theorem zv_X6_197 : zGV RX6 197 RX1 yX1_oreOfLots cX1_oreOfLots 3 (some .int) 0 := ⟨zgv zL_X6_197 zI_X1_oreOfLots zS_X1_oreOfLots zN_X1 zO_X1_oreOfLots, by decide +kernel⟩
theorem zL_X6_205 : Cond.methodLink RX6 205 yX6_tinOfHead ∈ wsL_law := zr_29 _ (List.mem_of_getElem? (i := 18) rfl)
theorem zv_X6_205 : zGS RX6 205 yX6_tinOfHead cX6_tinOfHead 2 (some .int) 2 := ⟨zgs zL_X6_205 zT_X6_tinOfHead zN_X6 zO_X6_tinOfHead, by decide +kernel⟩
theorem zL_X6_212 : Cond.methodLink RX6 212 yX6_rockOfHead ∈ wsL_law := zr_29 _ (List.mem_of_getElem? (i := 19) rfl)
theorem zv_X6_212 : zGS RX6 212 yX6_rockOfHead cX6_rockOfHead 2 (some .int) 2 := ⟨zgs zL_X6_212 zT_X6_rockOfHead zN_X6 zO_X6_rockOfHead, by decide +kernel⟩
theorem zL_X6_215 : Cond.methodLink RX6 215 yX6_gradeOf ∈ wsL_law := zr_29 _ (List.mem_of_getElem? (i := 20) rfl)
theorem zv_X6_215 : zGS RX6 215 yX6_gradeOf cX6_gradeOf 2 (some .int) 2 := ⟨zgs zL_X6_215 zT_X6_gradeOf zN_X6 zO_X6_gradeOf, by decide +kernel⟩
theorem zL_X6_226 : Cond.methodLink RX6 226 yX6_join ∈ wsL_law := zr_30 _ (List.mem_of_getElem? (i := 16) rfl)
theorem zO_X6_join : Cond.code yX6_join cX6_join 4 (some .long) ∈ wsL_law := zr_30 _ (List.mem_of_getElem? (i := 18) rfl)
theorem zT_X6_join : Cond.static yX6_join ∈ wsL_law := zr_30 _ (List.mem_of_getElem? (i := 17) rfl)
theorem zv_X6_226 : zGS RX6 226 yX6_join cX6_join 4 (some .long) 2 := ⟨zgs zL_X6_226 zT_X6_join zN_X6 zO_X6_join, by decide +kernel⟩
theorem zL_X6_234 : Cond.methodLink RX6 234 yX6_joinBox ∈ wsL_law := zr_30 _ (List.mem_of_getElem? (i := 20) rfl)
theorem zO_X6_joinBox : Cond.code yX6_joinBox cX6_joinBox 6 (some .long) ∈ wsL_law := zr_30 _ (List.mem_of_getElem? (i := 22) rfl)
theorem zT_X6_joinBox : Cond.static yX6_joinBox ∈ wsL_law := zr_30 _ (List.mem_of_getElem? (i := 21) rfl)
theorem zv_X6_234 : zGS RX6 234 yX6_joinBox cX6_joinBox 6 (some .long) 2 := ⟨zgs zL_X6_234 zT_X6_joinBox zN_X6 zO_X6_joinBox, by decide +kernel⟩
theorem zL_X6_238 : Cond.methodLink RX6 238 yX6_joinLot ∈ wsL_law := zr_31 _ (List.mem_of_getElem? (i := 1) rfl)
theorem zO_X6_joinLot : Cond.code yX6_joinLot cX6_joinLot 6 (some .long) ∈ wsL_law := zr_31 _ (List.mem_of_getElem? (i := 3) rfl)
theorem zT_X6_joinLot : Cond.static yX6_joinLot ∈ wsL_law := zr_31 _ (List.mem_of_getElem? (i := 2) rfl)
theorem zv_X6_238 : zGS RX6 238 yX6_joinLot cX6_joinLot 6 (some .long) 2 := ⟨zgs zL_X6_238 zT_X6_joinLot zN_X6 zO_X6_joinLot, by decide +kernel⟩
theorem zL_X6_246 : Cond.methodLink RX6 246 yX6_joinBuddle ∈ wsL_law := zr_31 _ (List.mem_of_getElem? (i := 4) rfl)
theorem zO_X6_joinBuddle : Cond.code yX6_joinBuddle cX6_joinBuddle 6 (some .long) ∈ wsL_law := zr_31 _ (List.mem_of_getElem? (i := 6) rfl)
theorem zT_X6_joinBuddle : Cond.static yX6_joinBuddle ∈ wsL_law := zr_31 _ (List.mem_of_getElem? (i := 5) rfl)
theorem zv_X6_246 : zGS RX6 246 yX6_joinBuddle cX6_joinBuddle 6 (some .long) 2 := ⟨zgs zL_X6_246 zT_X6_joinBuddle zN_X6 zO_X6_joinBuddle, by decide +kernel⟩
theorem zL_X6_269 : Cond.methodLink RX6 269 yX6_partOf ∈ wsL_law := zr_13 _ (List.mem_of_getElem? (i := 17) rfl)
theorem zv_X6_269 : zGS RX6 269 yX6_partOf cX6_partOf 3 (some .int) 3 := ⟨zgs zL_X6_269 zT_X6_partOf zN_X6 zO_X6_partOf, by decide +kernel⟩
theorem zL_X7_3 : Cond.methodLink RX7 3 objectInit ∈ wsL_law := zr_4 _ (List.mem_of_getElem? (i := 15) rfl)
theorem zL_X7_55 : Cond.methodLink RX7 55 arraycopyName ∈ wsL_law := zr_28 _ (List.mem_of_getElem? (i := 17) rfl)
theorem zL_X7_73 : Cond.methodLink RX7 73 yX7_copy ∈ wsL_law := zr_28 _ (List.mem_of_getElem? (i := 14) rfl)
theorem zO_X7_copy : Cond.code yX7_copy cX7_copy 2 none ∈ wsL_law := zr_28 _ (List.mem_of_getElem? (i := 16) rfl)
theorem zT_X7_copy : Cond.static yX7_copy ∈ wsL_law := zr_28 _ (List.mem_of_getElem? (i := 15) rfl)
theorem zN_X7 : Cond.initialized RX7 ∈ wsL_law := zr_4 _ (List.mem_of_getElem? (i := 8) rfl)
theorem zv_X7_73 : zGS RX7 73 yX7_copy cX7_copy 2 none 2 := ⟨zgs zL_X7_73 zT_X7_copy zN_X7 zO_X7_copy, by decide +kernel⟩
theorem zL_X7_77 : Cond.methodLink RX7 77 yX7_tinOf ∈ wsL_law := zr_19 _ (List.mem_of_getElem? (i := 23) rfl)
theorem zO_X7_tinOf : Cond.code yX7_tinOf cX7_tinOf 5 (some .int) ∈ wsL_law := zr_20 _ (List.mem_of_getElem? (i := 1) rfl)
theorem zT_X7_tinOf : Cond.static yX7_tinOf ∈ wsL_law := zr_20 _ (List.mem_of_getElem? (i := 0) rfl)
theorem zv_X7_77 : zGS RX7 77 yX7_tinOf cX7_tinOf 5 (some .int) 3 := ⟨zgs zL_X7_77 zT_X7_tinOf zN_X7 zO_X7_tinOf, by decide +kernel⟩
theorem zL_X7_81 : Cond.methodLink RX7 81 Lib.Math.min.name ∈ wsL_law := zr_19 _ (List.mem_of_getElem? (i := 8) rfl)
theorem zL_X7_87 : Cond.methodLink RX7 87 yX7_load ∈ wsL_law := zr_19 _ (List.mem_of_getElem? (i := 12) rfl)
theorem zO_X7_load : Cond.code yX7_load cX7_load 4 (some .int) ∈ wsL_law := zr_19 _ (List.mem_of_getElem? (i := 15) rfl)
theorem zI_X7_load : Cond.instanceMethod yX7_load ∈ wsL_law := zr_19 _ (List.mem_of_getElem? (i := 13) rfl)
theorem zS_X7_load : Cond.selects RX7 yX7_load yX7_load ∈ wsL_law := zr_19 _ (List.mem_of_getElem? (i := 14) rfl)
theorem zv_X7_87 : zGV RX7 87 RX7 yX7_load cX7_load 4 (some .int) 0 := ⟨zgv zL_X7_87 zI_X7_load zS_X7_load zN_X7 zO_X7_load, by decide +kernel⟩
theorem zL_X7_91 : Cond.methodLink RX7 91 yX7_eat ∈ wsL_law := zr_19 _ (List.mem_of_getElem? (i := 16) rfl)
theorem zO_X7_eat : Cond.code yX7_eat cX7_eat 4 none ∈ wsL_law := zr_19 _ (List.mem_of_getElem? (i := 19) rfl)
theorem zI_X7_eat : Cond.instanceMethod yX7_eat ∈ wsL_law := zr_19 _ (List.mem_of_getElem? (i := 17) rfl)
theorem zS_X7_eat : Cond.selects RX7 yX7_eat yX7_eat ∈ wsL_law := zr_19 _ (List.mem_of_getElem? (i := 18) rfl)
theorem zv_X7_91 : zGV RX7 91 RX7 yX7_eat cX7_eat 4 none 1 := ⟨zgv zL_X7_91 zI_X7_eat zS_X7_eat zN_X7 zO_X7_eat, by decide +kernel⟩
theorem zL_X7_95 : Cond.methodLink RX7 95 yX7_blow ∈ wsL_law := zr_20 _ (List.mem_of_getElem? (i := 6) rfl)
theorem zO_X7_blow : Cond.code yX7_blow cX7_blow 4 none ∈ wsL_law := zr_20 _ (List.mem_of_getElem? (i := 9) rfl)
theorem zI_X7_blow : Cond.instanceMethod yX7_blow ∈ wsL_law := zr_20 _ (List.mem_of_getElem? (i := 7) rfl)
theorem zS_X7_blow : Cond.selects RX7 yX7_blow yX7_blow ∈ wsL_law := zr_20 _ (List.mem_of_getElem? (i := 8) rfl)
theorem zv_X7_95 : zGV RX7 95 RX7 yX7_blow cX7_blow 4 none 2 := ⟨zgv zL_X7_95 zI_X7_blow zS_X7_blow zN_X7 zO_X7_blow, by decide +kernel⟩
theorem zL_X7_99 : Cond.methodLink RX7 99 Lib.Math.max.name ∈ wsL_law := zr_19 _ (List.mem_of_getElem? (i := 10) rfl)
theorem zL_X7_102 : Cond.methodLink RX7 102 yX7_oreOf ∈ wsL_law := zr_20 _ (List.mem_of_getElem? (i := 10) rfl)
theorem zO_X7_oreOf : Cond.code yX7_oreOf cX7_oreOf 3 (some .int) ∈ wsL_law := zr_20 _ (List.mem_of_getElem? (i := 13) rfl)
theorem zI_X7_oreOf : Cond.instanceMethod yX7_oreOf ∈ wsL_law := zr_20 _ (List.mem_of_getElem? (i := 11) rfl)
theorem zS_X7_oreOf : Cond.selects RX7 yX7_oreOf yX7_oreOf ∈ wsL_law := zr_20 _ (List.mem_of_getElem? (i := 12) rfl)
theorem zv_X7_102 : zGV RX7 102 RX7 yX7_oreOf cX7_oreOf 3 (some .int) 2 := ⟨zgv zL_X7_102 zI_X7_oreOf zS_X7_oreOf zN_X7 zO_X7_oreOf, by decide +kernel⟩
theorem zL_X7_105 : Cond.methodLink RX7 105 yX7_inBuddle ∈ wsL_law := zr_20 _ (List.mem_of_getElem? (i := 14) rfl)
theorem zO_X7_inBuddle : Cond.code yX7_inBuddle cX7_inBuddle 2 (some .int) ∈ wsL_law := zr_20 _ (List.mem_of_getElem? (i := 17) rfl)
theorem zI_X7_inBuddle : Cond.instanceMethod yX7_inBuddle ∈ wsL_law := zr_20 _ (List.mem_of_getElem? (i := 15) rfl)
theorem zS_X7_inBuddle : Cond.selects RX7 yX7_inBuddle yX7_inBuddle ∈ wsL_law := zr_20 _ (List.mem_of_getElem? (i := 16) rfl)
theorem zv_X7_105 : zGV RX7 105 RX7 yX7_inBuddle cX7_inBuddle 2 (some .int) 1 := ⟨zgv zL_X7_105 zI_X7_inBuddle zS_X7_inBuddle zN_X7 zO_X7_inBuddle, by decide +kernel⟩
theorem zL_X7_109 : Cond.methodLink RX7 109 yX7_move ∈ wsL_law := zr_19 _ (List.mem_of_getElem? (i := 20) rfl)
theorem zO_X7_move : Cond.code yX7_move cX7_move 6 none ∈ wsL_law := zr_19 _ (List.mem_of_getElem? (i := 22) rfl)
theorem zT_X7_move : Cond.static yX7_move ∈ wsL_law := zr_19 _ (List.mem_of_getElem? (i := 21) rfl)
theorem zv_X7_109 : zGS RX7 109 yX7_move cX7_move 6 none 5 := ⟨zgs zL_X7_109 zT_X7_move zN_X7 zO_X7_move, by decide +kernel⟩
theorem zL_X7_113 : Cond.methodLink RX7 113 yX7_dropLot ∈ wsL_law := zr_20 _ (List.mem_of_getElem? (i := 2) rfl)
theorem zO_X7_dropLot : Cond.code yX7_dropLot cX7_dropLot 2 none ∈ wsL_law := zr_20 _ (List.mem_of_getElem? (i := 5) rfl)
theorem zI_X7_dropLot : Cond.instanceMethod yX7_dropLot ∈ wsL_law := zr_20 _ (List.mem_of_getElem? (i := 3) rfl)
theorem zS_X7_dropLot : Cond.selects RX7 yX7_dropLot yX7_dropLot ∈ wsL_law := zr_20 _ (List.mem_of_getElem? (i := 4) rfl)
theorem zv_X7_113 : zGV RX7 113 RX7 yX7_dropLot cX7_dropLot 2 none 0 := ⟨zgv zL_X7_113 zI_X7_dropLot zS_X7_dropLot zN_X7 zO_X7_dropLot, by decide +kernel⟩
theorem zL_X8_1 : Cond.methodLink RX8 1 objectInit ∈ wsL_law := zr_4 _ (List.mem_of_getElem? (i := 5) rfl)
theorem zL_X8_9 : Cond.methodLink RX8 9 yX7_init ∈ wsL_law := zr_4 _ (List.mem_of_getElem? (i := 12) rfl)
theorem zO_X7_init : Cond.code yX7_init cX7_init 2 none ∈ wsL_law := zr_4 _ (List.mem_of_getElem? (i := 14) rfl)
theorem zL_X8_27 : Cond.methodLink RX8 27 yX8_isIn ∈ wsL_law := zr_6 _ (List.mem_of_getElem? (i := 2) rfl)
theorem zO_X8_isIn : Cond.code yX8_isIn cX8_isIn 3 (some .boolean) ∈ wsL_law := zr_6 _ (List.mem_of_getElem? (i := 4) rfl)
theorem zT_X8_isIn : Cond.static yX8_isIn ∈ wsL_law := zr_6 _ (List.mem_of_getElem? (i := 3) rfl)
theorem zv_X8_27 : zGS RX8 27 yX8_isIn cX8_isIn 3 (some .boolean) 3 := ⟨zgs zL_X8_27 zT_X8_isIn zN_X8 zO_X8_isIn, by decide +kernel⟩
theorem zL_X8_31 : Cond.methodLink RX8 31 yX8_no ∈ wsL_law := zr_6 _ (List.mem_of_getElem? (i := 5) rfl)
theorem zO_X8_no : Cond.code yX8_no cX8_no 2 (some .int) ∈ wsL_law := zr_6 _ (List.mem_of_getElem? (i := 8) rfl)
theorem zI_X8_no : Cond.instanceMethod yX8_no ∈ wsL_law := zr_6 _ (List.mem_of_getElem? (i := 6) rfl)
theorem zS_X8_no : Cond.selects RX8 yX8_no yX8_no ∈ wsL_law := zr_6 _ (List.mem_of_getElem? (i := 7) rfl)
theorem zv_X8_31 : zGV RX8 31 RX8 yX8_no cX8_no 2 (some .int) 1 := ⟨zgv zL_X8_31 zI_X8_no zS_X8_no zN_X8 zO_X8_no, by decide +kernel⟩
theorem zL_X8_50 : Cond.methodLink RX8 50 yX8_isBox ∈ wsL_law := zr_8 _ (List.mem_of_getElem? (i := 16) rfl)
theorem zO_X8_isBox : Cond.code yX8_isBox cX8_isBox 2 (some .boolean) ∈ wsL_law := zr_8 _ (List.mem_of_getElem? (i := 19) rfl)
theorem zI_X8_isBox : Cond.instanceMethod yX8_isBox ∈ wsL_law := zr_8 _ (List.mem_of_getElem? (i := 17) rfl)
theorem zS_X8_isBox : Cond.selects RX8 yX8_isBox yX8_isBox ∈ wsL_law := zr_8 _ (List.mem_of_getElem? (i := 18) rfl)
theorem zv_X8_50 : zGV RX8 50 RX8 yX8_isBox cX8_isBox 2 (some .boolean) 1 := ⟨zgv zL_X8_50 zI_X8_isBox zS_X8_isBox zN_X8 zO_X8_isBox, by decide +kernel⟩
theorem zL_X8_75 : Cond.methodLink RX8 75 yX8_boxTold ∈ wsL_law := zr_10 _ (List.mem_of_getElem? (i := 22) rfl)
theorem zO_X8_boxTold : Cond.code yX8_boxTold cX8_boxTold 5 (some .int) ∈ wsL_law := zr_11 _ (List.mem_of_getElem? (i := 1) rfl)
theorem zI_X8_boxTold : Cond.instanceMethod yX8_boxTold ∈ wsL_law := zr_10 _ (List.mem_of_getElem? (i := 23) rfl)
theorem zS_X8_boxTold : Cond.selects RX8 yX8_boxTold yX8_boxTold ∈ wsL_law := zr_11 _ (List.mem_of_getElem? (i := 0) rfl)
theorem zv_X8_75 : zGV RX8 75 RX8 yX8_boxTold cX8_boxTold 5 (some .int) 2 := ⟨zgv zL_X8_75 zI_X8_boxTold zS_X8_boxTold zN_X8 zO_X8_boxTold, by decide +kernel⟩
theorem zL_X8_82 : Cond.methodLink RX8 82 yX7_addLot ∈ wsL_law := zr_12 _ (List.mem_of_getElem? (i := 17) rfl)
theorem zO_X7_addLot : Cond.code yX7_addLot cX7_addLot 4 none ∈ wsL_law := zr_12 _ (List.mem_of_getElem? (i := 20) rfl)
theorem zI_X7_addLot : Cond.instanceMethod yX7_addLot ∈ wsL_law := zr_12 _ (List.mem_of_getElem? (i := 18) rfl)
theorem zS_X7_addLot : Cond.selects RX7 yX7_addLot yX7_addLot ∈ wsL_law := zr_12 _ (List.mem_of_getElem? (i := 19) rfl)
theorem zv_X8_82 : zGV RX8 82 RX7 yX7_addLot cX7_addLot 4 none 3 := ⟨zgv zL_X8_82 zI_X7_addLot zS_X7_addLot zN_X7 zO_X7_addLot, by decide +kernel⟩
theorem zL_X8_89 : Cond.methodLink RX8 89 yX7_pass ∈ wsL_law := zr_19 _ (List.mem_of_getElem? (i := 3) rfl)
theorem zO_X7_pass : Cond.code yX7_pass cX7_pass 8 (some .int) ∈ wsL_law := zr_19 _ (List.mem_of_getElem? (i := 6) rfl)
theorem zI_X7_pass : Cond.instanceMethod yX7_pass ∈ wsL_law := zr_19 _ (List.mem_of_getElem? (i := 4) rfl)
theorem zS_X7_pass : Cond.selects RX7 yX7_pass yX7_pass ∈ wsL_law := zr_19 _ (List.mem_of_getElem? (i := 5) rfl)
theorem zv_X8_89 : zGV RX8 89 RX7 yX7_pass cX7_pass 8 (some .int) 0 := ⟨zgv zL_X8_89 zI_X7_pass zS_X7_pass zN_X7 zO_X7_pass, by decide +kernel⟩
theorem zL_X8_96 : Cond.methodLink RX8 96 yX8_run ∈ wsL_law := zr_19 _ (List.mem_of_getElem? (i := 0) rfl)
theorem zO_X8_run : Cond.code yX8_run cX8_run 4 (some .int) ∈ wsL_law := zr_19 _ (List.mem_of_getElem? (i := 2) rfl)
theorem zT_X8_run : Cond.static yX8_run ∈ wsL_law := zr_19 _ (List.mem_of_getElem? (i := 1) rfl)
theorem zv_X8_96 : zGS RX8 96 yX8_run cX8_run 4 (some .int) 2 := ⟨zgs zL_X8_96 zT_X8_run zN_X8 zO_X8_run, by decide +kernel⟩
theorem zL_X8_103 : Cond.methodLink RX8 103 yX7_inHopper ∈ wsL_law := zr_22 _ (List.mem_of_getElem? (i := 8) rfl)
theorem zO_X7_inHopper : Cond.code yX7_inHopper cX7_inHopper 3 (some .int) ∈ wsL_law := zr_22 _ (List.mem_of_getElem? (i := 11) rfl)
theorem zI_X7_inHopper : Cond.instanceMethod yX7_inHopper ∈ wsL_law := zr_22 _ (List.mem_of_getElem? (i := 9) rfl)
theorem zS_X7_inHopper : Cond.selects RX7 yX7_inHopper yX7_inHopper ∈ wsL_law := zr_22 _ (List.mem_of_getElem? (i := 10) rfl)
theorem zv_X8_103 : zGV RX8 103 RX7 yX7_inHopper cX7_inHopper 3 (some .int) 0 := ⟨zgv zL_X8_103 zI_X7_inHopper zS_X7_inHopper zN_X7 zO_X7_inHopper, by decide +kernel⟩
theorem zL_X8_106 : Cond.methodLink RX8 106 yX7_load ∈ wsL_law := zr_22 _ (List.mem_of_getElem? (i := 12) rfl)
theorem zv_X8_106 : zGV RX8 106 RX7 yX7_load cX7_load 4 (some .int) 0 := ⟨zgv zL_X8_106 zI_X7_load zS_X7_load zN_X7 zO_X7_load, by decide +kernel⟩
theorem zL_X8_121 : Cond.methodLink RX8 121 yX8_tinInBoxes ∈ wsL_law := zr_22 _ (List.mem_of_getElem? (i := 13) rfl)
theorem zO_X8_tinInBoxes : Cond.code yX8_tinInBoxes cX8_tinInBoxes 3 (some .int) ∈ wsL_law := zr_22 _ (List.mem_of_getElem? (i := 16) rfl)
theorem zI_X8_tinInBoxes : Cond.instanceMethod yX8_tinInBoxes ∈ wsL_law := zr_22 _ (List.mem_of_getElem? (i := 14) rfl)
theorem zS_X8_tinInBoxes : Cond.selects RX8 yX8_tinInBoxes yX8_tinInBoxes ∈ wsL_law := zr_22 _ (List.mem_of_getElem? (i := 15) rfl)
theorem zv_X8_121 : zGV RX8 121 RX8 yX8_tinInBoxes cX8_tinInBoxes 3 (some .int) 0 := ⟨zgv zL_X8_121 zI_X8_tinInBoxes zS_X8_tinInBoxes zN_X8 zO_X8_tinInBoxes, by decide +kernel⟩
theorem zL_X8_124 : Cond.methodLink RX8 124 yX8_counted ∈ wsL_law := zr_22 _ (List.mem_of_getElem? (i := 1) rfl)
theorem zO_X8_counted : Cond.code yX8_counted cX8_counted 3 (some .int) ∈ wsL_law := zr_22 _ (List.mem_of_getElem? (i := 4) rfl)
theorem zI_X8_counted : Cond.instanceMethod yX8_counted ∈ wsL_law := zr_22 _ (List.mem_of_getElem? (i := 2) rfl)
theorem zS_X8_counted : Cond.selects RX8 yX8_counted yX8_counted ∈ wsL_law := zr_22 _ (List.mem_of_getElem? (i := 3) rfl)
theorem zv_X8_124 : zGV RX8 124 RX8 yX8_counted cX8_counted 3 (some .int) 1 := ⟨zgv zL_X8_124 zI_X8_counted zS_X8_counted zN_X8 zO_X8_counted, by decide +kernel⟩
theorem zL_X8_132 : Cond.methodLink RX8 132 yX8_grade ∈ wsL_law := zr_23 _ (List.mem_of_getElem? (i := 14) rfl)
theorem zO_X8_grade : Cond.code yX8_grade cX8_grade 4 (some .int) ∈ wsL_law := zr_23 _ (List.mem_of_getElem? (i := 16) rfl)
theorem zT_X8_grade : Cond.static yX8_grade ∈ wsL_law := zr_23 _ (List.mem_of_getElem? (i := 15) rfl)
theorem zv_X8_132 : zGS RX8 132 yX8_grade cX8_grade 4 (some .int) 2 := ⟨zgs zL_X8_132 zT_X8_grade zN_X8 zO_X8_grade, by decide +kernel⟩
theorem zL_X8_136 : Cond.methodLink RX8 136 yX8_buddleTold ∈ wsL_law := zr_23 _ (List.mem_of_getElem? (i := 10) rfl)
theorem zO_X8_buddleTold : Cond.code yX8_buddleTold cX8_buddleTold 3 (some .int) ∈ wsL_law := zr_23 _ (List.mem_of_getElem? (i := 13) rfl)
theorem zI_X8_buddleTold : Cond.instanceMethod yX8_buddleTold ∈ wsL_law := zr_23 _ (List.mem_of_getElem? (i := 11) rfl)
theorem zS_X8_buddleTold : Cond.selects RX8 yX8_buddleTold yX8_buddleTold ∈ wsL_law := zr_23 _ (List.mem_of_getElem? (i := 12) rfl)
theorem zv_X8_136 : zGV RX8 136 RX8 yX8_buddleTold cX8_buddleTold 3 (some .int) 2 := ⟨zgv zL_X8_136 zI_X8_buddleTold zS_X8_buddleTold zN_X8 zO_X8_buddleTold, by decide +kernel⟩
theorem zL_X8_139 : Cond.methodLink RX8 139 yX7_inBuddle ∈ wsL_law := zr_24 _ (List.mem_of_getElem? (i := 17) rfl)
theorem zv_X8_139 : zGV RX8 139 RX7 yX7_inBuddle cX7_inBuddle 2 (some .int) 1 := ⟨zgv zL_X8_139 zI_X7_inBuddle zS_X7_inBuddle zN_X7 zO_X7_inBuddle, by decide +kernel⟩
theorem zL_X8_142 : Cond.methodLink RX8 142 yX8_headTin ∈ wsL_law := zr_24 _ (List.mem_of_getElem? (i := 18) rfl)
theorem zO_X8_headTin : Cond.code yX8_headTin cX8_headTin 3 (some .int) ∈ wsL_law := zr_24 _ (List.mem_of_getElem? (i := 21) rfl)
theorem zI_X8_headTin : Cond.instanceMethod yX8_headTin ∈ wsL_law := zr_24 _ (List.mem_of_getElem? (i := 19) rfl)
theorem zS_X8_headTin : Cond.selects RX8 yX8_headTin yX8_headTin ∈ wsL_law := zr_24 _ (List.mem_of_getElem? (i := 20) rfl)
theorem zv_X8_142 : zGV RX8 142 RX8 yX8_headTin cX8_headTin 3 (some .int) 2 := ⟨zgv zL_X8_142 zI_X8_headTin zS_X8_headTin zN_X8 zO_X8_headTin, by decide +kernel⟩
theorem zL_X8_145 : Cond.methodLink RX8 145 yX8_headRock ∈ wsL_law := zr_24 _ (List.mem_of_getElem? (i := 22) rfl)
theorem zO_X8_headRock : Cond.code yX8_headRock cX8_headRock 3 (some .int) ∈ wsL_law := zr_25 _ (List.mem_of_getElem? (i := 1) rfl)
theorem zI_X8_headRock : Cond.instanceMethod yX8_headRock ∈ wsL_law := zr_24 _ (List.mem_of_getElem? (i := 23) rfl)
theorem zS_X8_headRock : Cond.selects RX8 yX8_headRock yX8_headRock ∈ wsL_law := zr_25 _ (List.mem_of_getElem? (i := 0) rfl)
theorem zv_X8_145 : zGV RX8 145 RX8 yX8_headRock cX8_headRock 3 (some .int) 2 := ⟨zgv zL_X8_145 zI_X8_headRock zS_X8_headRock zN_X8 zO_X8_headRock, by decide +kernel⟩
theorem zL_X8_148 : Cond.methodLink RX8 148 Lib.Math.min.name ∈ wsL_law := zr_25 _ (List.mem_of_getElem? (i := 15) rfl)
theorem zL_X8_153 : Cond.methodLink RX8 153 yX7_move ∈ wsL_law := zr_25 _ (List.mem_of_getElem? (i := 16) rfl)
theorem zv_X8_153 : zGS RX8 153 yX7_move cX7_move 6 none 5 := ⟨zgs zL_X8_153 zT_X7_move zN_X7 zO_X7_move, by decide +kernel⟩
theorem zL_X8_157 : Cond.methodLink RX8 157 yX7_become ∈ wsL_law := zr_28 _ (List.mem_of_getElem? (i := 10) rfl)
theorem zO_X7_become : Cond.code yX7_become cX7_become 2 none ∈ wsL_law := zr_28 _ (List.mem_of_getElem? (i := 13) rfl)
theorem zI_X7_become : Cond.instanceMethod yX7_become ∈ wsL_law := zr_28 _ (List.mem_of_getElem? (i := 11) rfl)
theorem zS_X7_become : Cond.selects RX7 yX7_become yX7_become ∈ wsL_law := zr_28 _ (List.mem_of_getElem? (i := 12) rfl)
theorem zv_X8_157 : zGV RX8 157 RX7 yX7_become cX7_become 2 none 1 := ⟨zgv zL_X8_157 zI_X7_become zS_X7_become zN_X7 zO_X7_become, by decide +kernel⟩
theorem zL_X8_161 : Cond.methodLink RX8 161 yX7_tinInBuddles ∈ wsL_law := zr_28 _ (List.mem_of_getElem? (i := 18) rfl)
theorem zO_X7_tinInBuddles : Cond.code yX7_tinInBuddles cX7_tinInBuddles 1 (some .int) ∈ wsL_law := zr_28 _ (List.mem_of_getElem? (i := 21) rfl)
theorem zI_X7_tinInBuddles : Cond.instanceMethod yX7_tinInBuddles ∈ wsL_law := zr_28 _ (List.mem_of_getElem? (i := 19) rfl)
theorem zS_X7_tinInBuddles : Cond.selects RX7 yX7_tinInBuddles yX7_tinInBuddles ∈ wsL_law := zr_28 _ (List.mem_of_getElem? (i := 20) rfl)
theorem zv_X8_161 : zGV RX8 161 RX7 yX7_tinInBuddles cX7_tinInBuddles 1 (some .int) 0 := ⟨zgv zL_X8_161 zI_X7_tinInBuddles zS_X7_tinInBuddles zN_X7 zO_X7_tinInBuddles, by decide +kernel⟩
theorem zK_X8_127 : Cond.constantLong RX8 127 (1000) ∈ wsL_law := zr_23 _ (List.mem_of_getElem? (i := 17) rfl)
theorem zK_X6_224 : Cond.constantLong RX6 224 (499) ∈ wsL_law := zr_30 _ (List.mem_of_getElem? (i := 15) rfl)
theorem zK_X6_261 : Cond.constantLong RX6 261 (31) ∈ wsL_law := zr_30 _ (List.mem_of_getElem? (i := 19) rfl)
theorem zK_X8_164 : Cond.constantLong RX8 164 (499) ∈ wsL_law := zr_31 _ (List.mem_of_getElem? (i := 11) rfl)
theorem zK_X8_166 : Cond.constantLong RX8 166 (31) ∈ wsL_law := zr_31 _ (List.mem_of_getElem? (i := 12) rfl)
theorem zT_max : Cond.static Lib.Math.max.name ∈ wsL_law := zr_15 _ (List.mem_of_getElem? (i := 0) rfl)
theorem zT_min : Cond.static Lib.Math.min.name ∈ wsL_law := zr_15 _ (List.mem_of_getElem? (i := 10) rfl)
theorem zN_Math : Cond.initialized "java/lang/Math" ∈ wsL_law := zr_15 _ (List.mem_of_getElem? (i := 1) rfl)
theorem zO_max : Cond.code Lib.Math.max.name Lib.Math.max.code 2 (some .int) ∈ wsL_law := zr_15 _ (List.mem_of_getElem? (i := 2) rfl)
theorem zO_min : Cond.code Lib.Math.min.name Lib.Math.min.code 2 (some .int) ∈ wsL_law := zr_15 _ (List.mem_of_getElem? (i := 11) rfl)
end
section
/-! THE PURE PICTURES of the small methods -/
def q_min (a b : Int32) : Int32 := if b < a then b else a
def q_max (a b : Int32) : Int32 := if a < b then b else a
def q_load1 (m : ZM) (n : ZN) : Int32 := m n 0 * m n 1 / 4
def q_force1 (m : ZM) (n : ZN) (t : Int32) : Int32 := m n 0 * m n 1 * t * (100 - m n 2) / 1000
def q_wearBy (m : ZM) (n : ZN) (t : Int32) : ZM := zs m n 2 (q_min 90 (m n 2 + t / 200))
def q_copyStamp (m : ZM) (n v : ZN) : ZM :=
  let m1 := zs m n 0 (m v 0)
  let m2 := zs m1 n 1 (m1 v 1)
  zs m2 n 2 (m2 v 2)
def q_whole (m : ZM) (n : ZN) : Int32 := m n 0 + m n 1
def q_partOf (t a b : Int32) : Int32 := if 1 ≤ b then (t.toInt64 * a.toInt64 / b.toInt64).toInt32 else 0
def q_gradeOf (a b : Int32) : Int32 := q_partOf b 1000 (a + b)
def q_tinOfHead (a b : Int32) : Int32 := a * (100 - b / 3) / 100
def q_rockOfHead (a b : Int32) : Int32 := a * ((100 - b) / 4) / 100
def q_put (m : ZM) (n : ZN) (a b : Int32) : ZM :=
  let m1 := zs m n 0 (m n 0 + a)
  zs m1 n 1 (m1 n 1 + b)
def q_become (m : ZM) (n : ZN) (a b : Int32) : ZM := zs (zs m n 0 a) n 1 b
def q_moveA (m : ZM) (n : ZN) (a : Int32) : Int32 := q_min a (q_whole m n)
def q_moveT (m : ZM) (n : ZN) (a : Int32) : Int32 := q_partOf (m n 1) (q_moveA m n a) (q_whole m n)
def q_moveR (m : ZM) (n : ZN) (a : Int32) : Int32 := if 1 ≤ q_moveA m n a then q_moveA m n a else 0
def q_move (m : ZM) (n v : ZN) (a : Int32) : ZM := if 1 ≤ q_moveA m n a then q_put (q_put m v (q_moveA m n a - q_moveT m n a) (q_moveT m n a)) n (q_moveT m n a - q_moveA m n a) (-q_moveT m n a) else m
def q_tellOre (m : ZM) (n : ZN) (k : Int32) : Int32 := if k = 0 then m n 0 else if k = 1 then m n 1 else q_gradeOf (m n 0) (m n 1)
theorem zdivL {b : Int32} (h : 1 ≤ b) : ¬ b.toInt64 = 0 := by
  intro q
  have h1 : b.toInt64.toInt = 0 := by rw [q]; rfl
  rw [Int32.toInt_toInt64] at h1
  have h2 := Int32.le_iff_toInt_le.mp h
  rw [h1] at h2
  exact absurd h2 (by decide)

set_option maxHeartbeats 4000000 in
set_option maxRecDepth 100000 in
theorem c_X4_loadOfStamp (l : Launch) (D : va_G) (cy : Nat → ClassId) (ad : ZN → Nat) (m : ZM) (sz : Nat) {L : List ZN} (hL : zL L) {w o : Nat} (gw : w < 2) (go : o < 16) : Met l yX4_loadOfStamp (zws yX4_loadOfStamp cX4_loadOfStamp 1 (some .int)) ({ frames := 0, cells := 0, slots := 0, locals := 0 } : Room) (zPc D cy ad L m sz [.ref (ad (6, w, o))]) (zQi (fun r m1 => r = q_load1 m (6, w, o) ∧ m1 = m) D cy ad L sz) 0 0 (zA ad L sz) := by
  refine zopen (Qc := fun sz => zQi (fun r m1 => r = q_load1 m (6, w, o) ∧ m1 = m) D cy ad L sz) RX4 (by decide) rfl (Nat.le_of_ble_eq_true rfl) ?_
  intro p e s mi below meth c ls C hr hlocks hml hl H locs hw
  obtain ⟨hx, hb, hts, hown, hK, hNw⟩ := id C
  have hl : lv_has ls 1 [(0, .ref (ad (6, w, o)))] := hl
  refine lv_aload_n hx hb dX4_loadOfStamp_0 rfl (lv_at hl 0 rfl) ?_
  refine zg_X4_9 C hw (zn6 hL gw (by omega)) dX4_loadOfStamp_1 ?_
  refine lv_aload_n hx hb dX4_loadOfStamp_4 rfl (lv_at hl 0 rfl) ?_
  refine zg_X4_15 C hw (zn6 hL gw (by omega)) dX4_loadOfStamp_5 ?_
  refine lv_imul hx hb dX4_loadOfStamp_8 ?_
  refine lv_iconst (v := 4) hx hb dX4_loadOfStamp_9 (by decide) ?_
  refine lv_idiv hx hb dX4_loadOfStamp_10 (by decide) ?_
  exact zret_i C hr hlocks hw dX4_loadOfStamp_11 ⟨(by first | rfl | (subst_vars; first | rfl)), (by first | rfl | (subst_vars; first | rfl))⟩

set_option maxHeartbeats 4000000 in
set_option maxRecDepth 100000 in
theorem c_X4_forceOfStamp (l : Launch) (D : va_G) (cy : Nat → ClassId) (ad : ZN → Nat) (m : ZM) (sz : Nat) {L : List ZN} (hL : zL L) {w o : Nat} (gw : w < 2) (go : o < 16) (t : Int32) : Met l yX4_forceOfStamp (zws yX4_forceOfStamp cX4_forceOfStamp 2 (some .int)) ({ frames := 0, cells := 0, slots := 0, locals := 0 } : Room) (zPc D cy ad L m sz [.ref (ad (6, w, o)), .int t]) (zQi (fun r m1 => r = q_force1 m (6, w, o) t ∧ m1 = m) D cy ad L sz) 0 0 (zA ad L sz) := by
  refine zopen (Qc := fun sz => zQi (fun r m1 => r = q_force1 m (6, w, o) t ∧ m1 = m) D cy ad L sz) RX4 (by decide) rfl (Nat.le_of_ble_eq_true rfl) ?_
  intro p e s mi below meth c ls C hr hlocks hml hl H locs hw
  obtain ⟨hx, hb, hts, hown, hK, hNw⟩ := id C
  have hl : lv_has ls 2 [(0, .ref (ad (6, w, o))), (1, .int t)] := hl
  refine lv_aload_n hx hb dX4_forceOfStamp_0 rfl (lv_at hl 0 rfl) ?_
  refine zg_X4_9 C hw (zn6 hL gw (by omega)) dX4_forceOfStamp_1 ?_
  refine lv_aload_n hx hb dX4_forceOfStamp_4 rfl (lv_at hl 0 rfl) ?_
  refine zg_X4_15 C hw (zn6 hL gw (by omega)) dX4_forceOfStamp_5 ?_
  refine lv_imul hx hb dX4_forceOfStamp_8 ?_
  refine lv_iload_n hx hb dX4_forceOfStamp_9 rfl (lv_at hl 1 rfl) ?_
  refine lv_imul hx hb dX4_forceOfStamp_10 ?_
  refine lv_bipush (v := 100) hx hb dX4_forceOfStamp_11 (by decide) ?_
  refine lv_aload_n hx hb dX4_forceOfStamp_13 rfl (lv_at hl 0 rfl) ?_
  refine zg_X4_18 C hw (zn6 hL gw (by omega)) dX4_forceOfStamp_14 ?_
  refine lv_isub hx hb dX4_forceOfStamp_17 ?_
  refine lv_imul hx hb dX4_forceOfStamp_18 ?_
  refine lv_sipush (v := 1000) hx hb dX4_forceOfStamp_19 (by decide) ?_
  refine lv_idiv hx hb dX4_forceOfStamp_22 (by decide) ?_
  exact zret_i C hr hlocks hw dX4_forceOfStamp_23 ⟨(by first | rfl | (subst_vars; first | rfl)), (by first | rfl | (subst_vars; first | rfl))⟩

set_option maxHeartbeats 4000000 in
set_option maxRecDepth 100000 in
theorem c_X4_wearBy (l : Launch) (D : va_G) (cy : Nat → ClassId) (ad : ZN → Nat) (m : ZM) (sz : Nat) {L : List ZN} (hL : zL L) {w o : Nat} (gw : w < 2) (go : o < 16) (t : Int32) : Met l yX4_wearBy (zws yX4_wearBy cX4_wearBy 2 none) ({ frames := 1, cells := 0, slots := 0, locals := 21 } : Room) (zPc D cy ad L m sz [.ref (ad (6, w, o)), .int t]) (zQv (fun m1 => m1 = q_wearBy m (6, w, o) t) D cy ad L sz) 0 0 (zA ad L sz) := by
  refine zopen (Qc := fun sz => zQv (fun m1 => m1 = q_wearBy m (6, w, o) t) D cy ad L sz) RX4 (by decide) rfl (Nat.le_of_ble_eq_true rfl) ?_
  intro p e s mi below meth c ls C hr hlocks hml hl H locs hw
  obtain ⟨hx, hb, hts, hown, hK, hNw⟩ := id C
  have hl : lv_has ls 2 [(0, .ref (ad (6, w, o))), (1, .int t)] := hl
  refine lv_aload_n hx hb dX4_wearBy_0 rfl (lv_at hl 0 rfl) ?_
  refine lv_bipush (v := 90) hx hb dX4_wearBy_1 (by decide) ?_
  refine lv_aload_n hx hb dX4_wearBy_3 rfl (lv_at hl 0 rfl) ?_
  refine zg_X4_18 C hw (zn6 hL gw (by omega)) dX4_wearBy_4 ?_
  refine lv_iload_n hx hb dX4_wearBy_7 rfl (lv_at hl 1 rfl) ?_
  refine lv_sipush (v := 200) hx hb dX4_wearBy_8 (by decide) ?_
  refine lv_idiv hx hb dX4_wearBy_11 (by decide) ?_
  refine lv_iadd hx hb dX4_wearBy_12 ?_
  refine va_mmin hx hb (hml.trans hl.1.symm) hown (hts _ zL_X4_21) (hts _ zT_min) (hts _ zN_Math) (hts _ zO_min) (Nat.le_of_ble_eq_true rfl) (Nat.le_of_ble_eq_true rfl) (Nat.zero_le _) (Nat.zero_le _) dX4_wearBy_13 ?_
  refine zp_X4_18 C hw (zn6 hL gw (by omega)) dX4_wearBy_16 (fun H locs m1 em1 hw => ?_)
  exact zret_v C hr hlocks hw dX4_wearBy_19 (by first | rfl | (subst_vars; first | rfl))

set_option maxHeartbeats 4000000 in
set_option maxRecDepth 100000 in
theorem c_X4_copyStamp (l : Launch) (D : va_G) (cy : Nat → ClassId) (ad : ZN → Nat) (m : ZM) (sz : Nat) {L : List ZN} (hL : zL L) {w o v u : Nat} (gw : w < 2) (go : o < 16) (gv : v < 2) (gu : u < 16) : Met l yX4_copyStamp (zws yX4_copyStamp cX4_copyStamp 2 none) ({ frames := 0, cells := 0, slots := 0, locals := 0 } : Room) (zPc D cy ad L m sz [.ref (ad (6, w, o)), .ref (ad (6, v, u))]) (zQv (fun m1 => m1 = q_copyStamp m (6, w, o) (6, v, u)) D cy ad L sz) 0 0 (zA ad L sz) := by
  refine zopen (Qc := fun sz => zQv (fun m1 => m1 = q_copyStamp m (6, w, o) (6, v, u)) D cy ad L sz) RX4 (by decide) rfl (Nat.le_of_ble_eq_true rfl) ?_
  intro p e s mi below meth c ls C hr hlocks hml hl H locs hw
  obtain ⟨hx, hb, hts, hown, hK, hNw⟩ := id C
  have hl : lv_has ls 2 [(0, .ref (ad (6, w, o))), (1, .ref (ad (6, v, u)))] := hl
  refine lv_aload_n hx hb dX4_copyStamp_0 rfl (lv_at hl 0 rfl) ?_
  refine lv_aload_n hx hb dX4_copyStamp_1 rfl (lv_at hl 1 rfl) ?_
  refine zg_X4_9 C hw (zn6 hL gv (by omega)) dX4_copyStamp_2 ?_
  refine zp_X4_9 C hw (zn6 hL gw (by omega)) dX4_copyStamp_5 (fun H locs m1 em1 hw => ?_)
  refine lv_aload_n hx hb dX4_copyStamp_8 rfl (lv_at hl 0 rfl) ?_
  refine lv_aload_n hx hb dX4_copyStamp_9 rfl (lv_at hl 1 rfl) ?_
  refine zg_X4_15 C hw (zn6 hL gv (by omega)) dX4_copyStamp_10 ?_
  refine zp_X4_15 C hw (zn6 hL gw (by omega)) dX4_copyStamp_13 (fun H locs m2 em2 hw => ?_)
  refine lv_aload_n hx hb dX4_copyStamp_16 rfl (lv_at hl 0 rfl) ?_
  refine lv_aload_n hx hb dX4_copyStamp_17 rfl (lv_at hl 1 rfl) ?_
  refine zg_X4_18 C hw (zn6 hL gv (by omega)) dX4_copyStamp_18 ?_
  refine zp_X4_18 C hw (zn6 hL gw (by omega)) dX4_copyStamp_21 (fun H locs m3 em3 hw => ?_)
  exact zret_v C hr hlocks hw dX4_copyStamp_24 (by first | rfl | (subst_vars; first | rfl))

set_option maxHeartbeats 4000000 in
set_option maxRecDepth 100000 in
theorem c_X3_whole (l : Launch) (D : va_G) (cy : Nat → ClassId) (ad : ZN → Nat) (m : ZM) (sz : Nat) {L : List ZN} (hL : zL L) {w o : Nat} (gw : w < 2) (go : o < 47) : Met l yX3_whole (zws yX3_whole cX3_whole 1 (some .int)) ({ frames := 0, cells := 0, slots := 0, locals := 0 } : Room) (zPc D cy ad L m sz [.ref (ad (7, w, o))]) (zQi (fun r m1 => r = q_whole m (7, w, o) ∧ m1 = m) D cy ad L sz) 0 0 (zA ad L sz) := by
  refine zopen (Qc := fun sz => zQi (fun r m1 => r = q_whole m (7, w, o) ∧ m1 = m) D cy ad L sz) RX3 (by decide) rfl (Nat.le_of_ble_eq_true rfl) ?_
  intro p e s mi below meth c ls C hr hlocks hml hl H locs hw
  obtain ⟨hx, hb, hts, hown, hK, hNw⟩ := id C
  have hl : lv_has ls 1 [(0, .ref (ad (7, w, o)))] := hl
  refine lv_aload_n hx hb dX3_whole_0 rfl (lv_at hl 0 rfl) ?_
  refine zg_X3_7 C hw (zn7 hL gw (by omega)) dX3_whole_1 ?_
  refine lv_aload_n hx hb dX3_whole_4 rfl (lv_at hl 0 rfl) ?_
  refine zg_X3_13 C hw (zn7 hL gw (by omega)) dX3_whole_5 ?_
  refine lv_iadd hx hb dX3_whole_8 ?_
  exact zret_i C hr hlocks hw dX3_whole_9 ⟨(by first | rfl | (subst_vars; first | rfl)), (by first | rfl | (subst_vars; first | rfl))⟩

set_option maxHeartbeats 4000000 in
set_option maxRecDepth 100000 in
theorem c_X6_partOf (l : Launch) (D : va_G) (cy : Nat → ClassId) (ad : ZN → Nat) (m : ZM) (sz : Nat) {L : List ZN} (t a b : Int32) : Met l yX6_partOf (zws yX6_partOf cX6_partOf 3 (some .int)) ({ frames := 0, cells := 0, slots := 0, locals := 0 } : Room) (zPc D cy ad L m sz [.int t, .int a, .int b]) (zQi (fun r m1 => r = q_partOf t a b ∧ m1 = m) D cy ad L sz) 0 0 (zA ad L sz) := by
  refine zopen (Qc := fun sz => zQi (fun r m1 => r = q_partOf t a b ∧ m1 = m) D cy ad L sz) RX6 (by decide) rfl (Nat.le_of_ble_eq_true rfl) ?_
  intro p e s mi below meth c ls C hr hlocks hml hl H locs hw
  obtain ⟨hx, hb, hts, hown, hK, hNw⟩ := id C
  have hl : lv_has ls 3 [(0, .int t), (1, .int a), (2, .int b)] := hl
  refine lv_iload_n hx hb dX6_partOf_0 rfl (lv_at hl 2 rfl) ?_
  refine lv_iconst (v := 1) hx hb dX6_partOf_1 (by decide) ?_
  refine lv_icmp_ge (tgt := 9) hx hb dX6_partOf_2 (by decide) (fun c2_1 => ?_) (fun c2_1 => ?_)
  · skip
    refine lv_iload_n hx hb dX6_partOf_9 rfl (lv_at hl 0 rfl) ?_
    refine lv_i2l hx hb dX6_partOf_10 rfl ?_
    refine lv_iload_n hx hb dX6_partOf_11 rfl (lv_at hl 1 rfl) ?_
    refine lv_i2l hx hb dX6_partOf_12 rfl ?_
    refine lv_lmul hx hb dX6_partOf_13 ?_
    refine lv_iload_n hx hb dX6_partOf_14 rfl (lv_at hl 2 rfl) ?_
    refine lv_i2l hx hb dX6_partOf_15 rfl ?_
    refine lv_ldiv hx hb dX6_partOf_16 (zdivL c2_1) ?_
    refine lv_l2i hx hb dX6_partOf_17 rfl ?_
    exact zret_i C hr hlocks hw dX6_partOf_18 ⟨(by first | rfl | exact (if_pos c2_1).symm | (subst_vars; first | rfl | exact (if_pos c2_1).symm)), (by first | rfl | exact (if_pos c2_1).symm | (subst_vars; first | rfl | exact (if_pos c2_1).symm))⟩
  · skip
    refine lv_iconst (v := 0) hx hb dX6_partOf_5 (by decide) ?_
    refine lv_goto (tgt := 18) hx hb dX6_partOf_6 (by decide) ?_
    exact zret_i C hr hlocks hw dX6_partOf_18 ⟨(by first | rfl | exact (if_neg c2_1).symm | (subst_vars; first | rfl | exact (if_neg c2_1).symm)), (by first | rfl | exact (if_neg c2_1).symm | (subst_vars; first | rfl | exact (if_neg c2_1).symm))⟩

set_option maxHeartbeats 4000000 in
set_option maxRecDepth 100000 in
theorem c_X6_gradeOf (l : Launch) (D : va_G) (cy : Nat → ClassId) (ad : ZN → Nat) (m : ZM) (sz : Nat) {L : List ZN} (a b : Int32) : Met l yX6_gradeOf (zws yX6_gradeOf cX6_gradeOf 2 (some .int)) ({ frames := 1, cells := 0, slots := 0, locals := 22 } : Room) (zPc D cy ad L m sz [.int a, .int b]) (zQi (fun r m1 => r = q_gradeOf a b ∧ m1 = m) D cy ad L sz) 0 0 (zA ad L sz) := by
  refine zopen (Qc := fun sz => zQi (fun r m1 => r = q_gradeOf a b ∧ m1 = m) D cy ad L sz) RX6 (by decide) rfl (Nat.le_of_ble_eq_true rfl) ?_
  intro p e s mi below meth c ls C hr hlocks hml hl H locs hw
  obtain ⟨hx, hb, hts, hown, hK, hNw⟩ := id C
  have hl : lv_has ls 2 [(0, .int a), (1, .int b)] := hl
  refine lv_iload_n hx hb dX6_gradeOf_0 rfl (lv_at hl 1 rfl) ?_
  refine lv_sipush (v := 1000) hx hb dX6_gradeOf_1 (by decide) ?_
  refine lv_iload_n hx hb dX6_gradeOf_4 rfl (lv_at hl 0 rfl) ?_
  refine lv_iload_n hx hb dX6_gradeOf_5 rfl (lv_at hl 1 rfl) ?_
  refine lv_iadd hx hb dX6_gradeOf_6 ?_
  refine zafter_i C hw (zrunS (rest := []) C hml hl.1 hw (c_X6_partOf l D cy ad m H.size b 1000 (a + b)) zv_X6_269 rfl rfl rfl ⟨Nat.le_of_ble_eq_true rfl, Nat.le_of_ble_eq_true rfl⟩ rfl (Nat.le_of_ble_eq_true rfl) dX6_gradeOf_7 ⟨Nat.zero_le _, Nat.zero_le _⟩) (fun r3 m2 H locs h1 hw => ?_)
  obtain ⟨er3, h1⟩ := h1
  rw [h1] at hw
  clear h1 m2
  exact zret_i C hr hlocks hw dX6_gradeOf_10 ⟨(by first | rfl | (subst_vars; first | rfl)), (by first | rfl | (subst_vars; first | rfl))⟩

set_option maxHeartbeats 4000000 in
set_option maxRecDepth 100000 in
theorem c_X6_tinOfHead (l : Launch) (D : va_G) (cy : Nat → ClassId) (ad : ZN → Nat) (m : ZM) (sz : Nat) {L : List ZN} (a b : Int32) : Met l yX6_tinOfHead (zws yX6_tinOfHead cX6_tinOfHead 2 (some .int)) ({ frames := 0, cells := 0, slots := 0, locals := 0 } : Room) (zPc D cy ad L m sz [.int a, .int b]) (zQi (fun r m1 => r = q_tinOfHead a b ∧ m1 = m) D cy ad L sz) 0 0 (zA ad L sz) := by
  refine zopen (Qc := fun sz => zQi (fun r m1 => r = q_tinOfHead a b ∧ m1 = m) D cy ad L sz) RX6 (by decide) rfl (Nat.le_of_ble_eq_true rfl) ?_
  intro p e s mi below meth c ls C hr hlocks hml hl H locs hw
  obtain ⟨hx, hb, hts, hown, hK, hNw⟩ := id C
  have hl : lv_has ls 2 [(0, .int a), (1, .int b)] := hl
  refine lv_iload_n hx hb dX6_tinOfHead_0 rfl (lv_at hl 0 rfl) ?_
  refine lv_bipush (v := 100) hx hb dX6_tinOfHead_1 (by decide) ?_
  refine lv_iload_n hx hb dX6_tinOfHead_3 rfl (lv_at hl 1 rfl) ?_
  refine lv_iconst (v := 3) hx hb dX6_tinOfHead_4 (by decide) ?_
  refine lv_idiv hx hb dX6_tinOfHead_5 (by decide) ?_
  refine lv_isub hx hb dX6_tinOfHead_6 ?_
  refine lv_imul hx hb dX6_tinOfHead_7 ?_
  refine lv_bipush (v := 100) hx hb dX6_tinOfHead_8 (by decide) ?_
  refine lv_idiv hx hb dX6_tinOfHead_10 (by decide) ?_
  exact zret_i C hr hlocks hw dX6_tinOfHead_11 ⟨(by first | rfl | (subst_vars; first | rfl)), (by first | rfl | (subst_vars; first | rfl))⟩

set_option maxHeartbeats 4000000 in
set_option maxRecDepth 100000 in
theorem c_X6_rockOfHead (l : Launch) (D : va_G) (cy : Nat → ClassId) (ad : ZN → Nat) (m : ZM) (sz : Nat) {L : List ZN} (a b : Int32) : Met l yX6_rockOfHead (zws yX6_rockOfHead cX6_rockOfHead 2 (some .int)) ({ frames := 0, cells := 0, slots := 0, locals := 0 } : Room) (zPc D cy ad L m sz [.int a, .int b]) (zQi (fun r m1 => r = q_rockOfHead a b ∧ m1 = m) D cy ad L sz) 0 0 (zA ad L sz) := by
  refine zopen (Qc := fun sz => zQi (fun r m1 => r = q_rockOfHead a b ∧ m1 = m) D cy ad L sz) RX6 (by decide) rfl (Nat.le_of_ble_eq_true rfl) ?_
  intro p e s mi below meth c ls C hr hlocks hml hl H locs hw
  obtain ⟨hx, hb, hts, hown, hK, hNw⟩ := id C
  have hl : lv_has ls 2 [(0, .int a), (1, .int b)] := hl
  refine lv_iload_n hx hb dX6_rockOfHead_0 rfl (lv_at hl 0 rfl) ?_
  refine lv_bipush (v := 100) hx hb dX6_rockOfHead_1 (by decide) ?_
  refine lv_iload_n hx hb dX6_rockOfHead_3 rfl (lv_at hl 1 rfl) ?_
  refine lv_isub hx hb dX6_rockOfHead_4 ?_
  refine lv_iconst (v := 4) hx hb dX6_rockOfHead_5 (by decide) ?_
  refine lv_idiv hx hb dX6_rockOfHead_6 (by decide) ?_
  refine lv_imul hx hb dX6_rockOfHead_7 ?_
  refine lv_bipush (v := 100) hx hb dX6_rockOfHead_8 (by decide) ?_
  refine lv_idiv hx hb dX6_rockOfHead_10 (by decide) ?_
  exact zret_i C hr hlocks hw dX6_rockOfHead_11 ⟨(by first | rfl | (subst_vars; first | rfl)), (by first | rfl | (subst_vars; first | rfl))⟩

set_option maxHeartbeats 4000000 in
set_option maxRecDepth 100000 in
theorem c_X3_put (l : Launch) (D : va_G) (cy : Nat → ClassId) (ad : ZN → Nat) (m : ZM) (sz : Nat) {L : List ZN} (hL : zL L) {w o : Nat} (gw : w < 2) (go : o < 47) (a b : Int32) : Met l yX3_put (zws yX3_put cX3_put 3 none) ({ frames := 0, cells := 0, slots := 0, locals := 0 } : Room) (zPc D cy ad L m sz [.ref (ad (7, w, o)), .int a, .int b]) (zQv (fun m1 => m1 = q_put m (7, w, o) a b) D cy ad L sz) 0 0 (zA ad L sz) := by
  refine zopen (Qc := fun sz => zQv (fun m1 => m1 = q_put m (7, w, o) a b) D cy ad L sz) RX3 (by decide) rfl (Nat.le_of_ble_eq_true rfl) ?_
  intro p e s mi below meth c ls C hr hlocks hml hl H locs hw
  obtain ⟨hx, hb, hts, hown, hK, hNw⟩ := id C
  have hl : lv_has ls 3 [(0, .ref (ad (7, w, o))), (1, .int a), (2, .int b)] := hl
  refine lv_aload_n hx hb dX3_put_0 rfl (lv_at hl 0 rfl) ?_
  refine lv_dup hx hb dX3_put_1 rfl ?_
  refine zg_X3_7 C hw (zn7 hL gw (by omega)) dX3_put_2 ?_
  refine lv_iload_n hx hb dX3_put_5 rfl (lv_at hl 1 rfl) ?_
  refine lv_iadd hx hb dX3_put_6 ?_
  refine zp_X3_7 C hw (zn7 hL gw (by omega)) dX3_put_7 (fun H locs m1 em1 hw => ?_)
  refine lv_aload_n hx hb dX3_put_10 rfl (lv_at hl 0 rfl) ?_
  refine lv_dup hx hb dX3_put_11 rfl ?_
  refine zg_X3_13 C hw (zn7 hL gw (by omega)) dX3_put_12 ?_
  refine lv_iload_n hx hb dX3_put_15 rfl (lv_at hl 2 rfl) ?_
  refine lv_iadd hx hb dX3_put_16 ?_
  refine zp_X3_13 C hw (zn7 hL gw (by omega)) dX3_put_17 (fun H locs m2 em2 hw => ?_)
  exact zret_v C hr hlocks hw dX3_put_20 (by first | rfl | (subst_vars; first | rfl))

set_option maxHeartbeats 4000000 in
set_option maxRecDepth 100000 in
theorem c_X3_become (l : Launch) (D : va_G) (cy : Nat → ClassId) (ad : ZN → Nat) (m : ZM) (sz : Nat) {L : List ZN} (hL : zL L) {w o : Nat} (gw : w < 2) (go : o < 47) (a b : Int32) : Met l yX3_become (zws yX3_become cX3_become 3 none) ({ frames := 0, cells := 0, slots := 0, locals := 0 } : Room) (zPc D cy ad L m sz [.ref (ad (7, w, o)), .int a, .int b]) (zQv (fun m1 => m1 = q_become m (7, w, o) a b) D cy ad L sz) 0 0 (zA ad L sz) := by
  refine zopen (Qc := fun sz => zQv (fun m1 => m1 = q_become m (7, w, o) a b) D cy ad L sz) RX3 (by decide) rfl (Nat.le_of_ble_eq_true rfl) ?_
  intro p e s mi below meth c ls C hr hlocks hml hl H locs hw
  obtain ⟨hx, hb, hts, hown, hK, hNw⟩ := id C
  have hl : lv_has ls 3 [(0, .ref (ad (7, w, o))), (1, .int a), (2, .int b)] := hl
  refine lv_aload_n hx hb dX3_become_0 rfl (lv_at hl 0 rfl) ?_
  refine lv_iload_n hx hb dX3_become_1 rfl (lv_at hl 1 rfl) ?_
  refine zp_X3_7 C hw (zn7 hL gw (by omega)) dX3_become_2 (fun H locs m1 em1 hw => ?_)
  refine lv_aload_n hx hb dX3_become_5 rfl (lv_at hl 0 rfl) ?_
  refine lv_iload_n hx hb dX3_become_6 rfl (lv_at hl 2 rfl) ?_
  refine zp_X3_13 C hw (zn7 hL gw (by omega)) dX3_become_7 (fun H locs m2 em2 hw => ?_)
  exact zret_v C hr hlocks hw dX3_become_10 (by first | rfl | (subst_vars; first | rfl))

set_option maxHeartbeats 4000000 in
set_option maxRecDepth 100000 in
theorem c_X3_copyOre (l : Launch) (D : va_G) (cy : Nat → ClassId) (ad : ZN → Nat) (m : ZM) (sz : Nat) {L : List ZN} (hL : zL L) {w o v u : Nat} (gw : w < 2) (go : o < 47) (gv : v < 2) (gu : u < 47) : Met l yX3_copyOre (zws yX3_copyOre cX3_copyOre 2 none) ({ frames := 1, cells := 0, slots := 0, locals := 22 } : Room) (zPc D cy ad L m sz [.ref (ad (7, w, o)), .ref (ad (7, v, u))]) (zQv (fun m1 => m1 = q_become m (7, w, o) (m (7, v, u) 0) (m (7, v, u) 1)) D cy ad L sz) 0 0 (zA ad L sz) := by
  refine zopen (Qc := fun sz => zQv (fun m1 => m1 = q_become m (7, w, o) (m (7, v, u) 0) (m (7, v, u) 1)) D cy ad L sz) RX3 (by decide) rfl (Nat.le_of_ble_eq_true rfl) ?_
  intro p e s mi below meth c ls C hr hlocks hml hl H locs hw
  obtain ⟨hx, hb, hts, hown, hK, hNw⟩ := id C
  have hl : lv_has ls 2 [(0, .ref (ad (7, w, o))), (1, .ref (ad (7, v, u)))] := hl
  refine lv_aload_n hx hb dX3_copyOre_0 rfl (lv_at hl 0 rfl) ?_
  refine lv_aload_n hx hb dX3_copyOre_1 rfl (lv_at hl 1 rfl) ?_
  refine zg_X3_7 C hw (zn7 hL gv (by omega)) dX3_copyOre_2 ?_
  refine lv_aload_n hx hb dX3_copyOre_5 rfl (lv_at hl 1 rfl) ?_
  refine zg_X3_13 C hw (zn7 hL gv (by omega)) dX3_copyOre_6 ?_
  refine zafter_v C hw (zrunV (rest := []) C hml hl.1 hw (zn7 hL gw (by omega)) rfl rfl (c_X3_become l D cy ad m H.size hL gw go (m (7, v, u) 0) (m (7, v, u) 1)) zv_X3_22 rfl rfl rfl ⟨Nat.le_of_ble_eq_true rfl, Nat.le_of_ble_eq_true rfl⟩ rfl (Nat.le_of_ble_eq_true rfl) dX3_copyOre_9 ⟨Nat.zero_le _, Nat.zero_le _⟩) (fun m2 H locs h1 hw => ?_)
  have em2 := h1
  exact zret_v C hr hlocks hw dX3_copyOre_12 (by first | rfl | (subst_vars; first | rfl))

set_option maxHeartbeats 4000000 in
set_option maxRecDepth 100000 in
theorem c_X3_moveTo (l : Launch) (D : va_G) (cy : Nat → ClassId) (ad : ZN → Nat) (m : ZM) (sz : Nat) {L : List ZN} (hL : zL L) {w o v u : Nat} (gw : w < 2) (go : o < 47) (gv : v < 2) (gu : u < 47) (a : Int32) : Met l yX3_moveTo (zws yX3_moveTo cX3_moveTo 5 (some .int)) ({ frames := 1, cells := 0, slots := 0, locals := 22 } : Room) (zPc D cy ad L m sz [.ref (ad (7, w, o)), .ref (ad (7, v, u)), .int a]) (zQi (fun r m1 => r = q_moveR m (7, w, o) a ∧ m1 = q_move m (7, w, o) (7, v, u) a) D cy ad L sz) 0 0 (zA ad L sz) := by
  refine zopen (Qc := fun sz => zQi (fun r m1 => r = q_moveR m (7, w, o) a ∧ m1 = q_move m (7, w, o) (7, v, u) a) D cy ad L sz) RX3 (by decide) rfl (Nat.le_of_ble_eq_true rfl) ?_
  intro p e s mi below meth c ls C hr hlocks hml hl H locs hw
  obtain ⟨hx, hb, hts, hown, hK, hNw⟩ := id C
  have hl : lv_has ls 5 [(0, .ref (ad (7, w, o))), (1, .ref (ad (7, v, u))), (2, .int a)] := hl
  refine lv_iload_n hx hb dX3_moveTo_0 rfl (lv_at hl 2 rfl) ?_
  refine lv_aload_n hx hb dX3_moveTo_1 rfl (lv_at hl 0 rfl) ?_
  refine zafter_i C hw (zrunV (rest := [.int a]) C hml hl.1 hw (zn7 hL gw (by omega)) rfl rfl (c_X3_whole l D cy ad m H.size hL gw go) zv_X3_26 rfl rfl rfl ⟨Nat.le_of_ble_eq_true rfl, Nat.le_of_ble_eq_true rfl⟩ rfl (Nat.le_of_ble_eq_true rfl) dX3_moveTo_2 ⟨Nat.zero_le _, Nat.zero_le _⟩) (fun r3 m2 H locs h1 hw => ?_)
  obtain ⟨er3, h1⟩ := h1
  rw [h1] at hw
  clear h1 m2
  refine va_mmin hx hb (hml.trans hl.1.symm) hown (hts _ zL_X3_30) (hts _ zT_min) (hts _ zN_Math) (hts _ zO_min) (Nat.le_of_ble_eq_true rfl) (Nat.le_of_ble_eq_true rfl) (Nat.zero_le _) (Nat.zero_le _) dX3_moveTo_5 ?_
  refine lv_topi (fun x4 ex4 => ?_)
  refine lv_istore_n (lv' := [(3, .int x4), (0, .ref (ad (7, w, o))), (1, .ref (ad (7, v, u))), (2, .int a)]) hx hb dX3_moveTo_8 rfl hl (by decide) rfl (fun ls hl => ?_)
  refine lv_iload_n hx hb dX3_moveTo_9 rfl (lv_at hl 0 rfl) ?_
  refine lv_iconst (v := 1) hx hb dX3_moveTo_10 (by decide) ?_
  refine lv_icmp_ge (tgt := 16) hx hb dX3_moveTo_11 (by decide) (fun c11_5 => ?_) (fun c11_5 => ?_)
  · skip
    refine lv_aload_n hx hb dX3_moveTo_16 rfl (lv_at hl 1 rfl) ?_
    refine zg_X3_13 C hw (zn7 hL gw (by omega)) dX3_moveTo_17 ?_
    refine lv_iload_n hx hb dX3_moveTo_20 rfl (lv_at hl 0 rfl) ?_
    refine lv_aload_n hx hb dX3_moveTo_21 rfl (lv_at hl 1 rfl) ?_
    refine zafter_i C hw (zrunV (rest := [.int x4, .int (m (7, w, o) 1)]) C hml hl.1 hw (zn7 hL gw (by omega)) rfl rfl (c_X3_whole l D cy ad m H.size hL gw go) zv_X3_26 rfl rfl rfl ⟨Nat.le_of_ble_eq_true rfl, Nat.le_of_ble_eq_true rfl⟩ rfl (Nat.le_of_ble_eq_true rfl) dX3_moveTo_22 ⟨Nat.zero_le _, Nat.zero_le _⟩) (fun r8 m7 H locs h6 hw => ?_)
    obtain ⟨er8, h6⟩ := h6
    rw [h6] at hw
    clear h6 m7
    refine zafter_i C hw (zrunSN (rest := []) C hml hl.1 hw (c_X6_partOf l D cy ad m H.size ((m (7, w, o) 1)) (x4) (r8)) zv_X3_35 rfl rfl rfl ⟨Nat.le_of_ble_eq_true rfl, Nat.le_of_ble_eq_true rfl⟩ rfl (Nat.le_of_ble_eq_true rfl) dX3_moveTo_25 ⟨Nat.zero_le _, Nat.zero_le _⟩) (fun r11 m10 H locs h9 hw => ?_)
    obtain ⟨er11, h9⟩ := h9
    rw [h9] at hw
    clear h9 m10
    refine lv_istore (lv' := [(4, .int r11), (3, .int x4), (0, .ref (ad (7, w, o))), (1, .ref (ad (7, v, u))), (2, .int a)]) hx hb dX3_moveTo_28 hl (by decide) rfl (fun ls hl => ?_)
    refine lv_aload_n hx hb dX3_moveTo_30 rfl (lv_at hl 3 rfl) ?_
    refine lv_iload_n hx hb dX3_moveTo_31 rfl (lv_at hl 1 rfl) ?_
    refine lv_iload hx hb dX3_moveTo_32 (lv_at hl 0 rfl) ?_
    refine lv_isub hx hb dX3_moveTo_34 ?_
    refine lv_iload hx hb dX3_moveTo_35 (lv_at hl 0 rfl) ?_
    refine zafter_v C hw (zrunV (rest := []) C hml hl.1 hw (zn7 hL gv (by omega)) rfl rfl (c_X3_put l D cy ad m H.size hL gv gu ((x4 - r11)) (r11)) zv_X3_39 rfl rfl rfl ⟨Nat.le_of_ble_eq_true rfl, Nat.le_of_ble_eq_true rfl⟩ rfl (Nat.le_of_ble_eq_true rfl) dX3_moveTo_37 ⟨Nat.zero_le _, Nat.zero_le _⟩) (fun m13 H locs h12 hw => ?_)
    have em13 := h12
    refine lv_aload_n hx hb dX3_moveTo_40 rfl (lv_at hl 2 rfl) ?_
    refine lv_iload hx hb dX3_moveTo_41 (lv_at hl 0 rfl) ?_
    refine lv_iload_n hx hb dX3_moveTo_43 rfl (lv_at hl 1 rfl) ?_
    refine lv_isub hx hb dX3_moveTo_44 ?_
    refine lv_iload hx hb dX3_moveTo_45 (lv_at hl 0 rfl) ?_
    refine lv_ineg hx hb dX3_moveTo_47 ?_
    refine zafter_v C hw (zrunV (rest := []) C hml hl.1 hw (zn7 hL gw (by omega)) rfl rfl (c_X3_put l D cy ad m13 H.size hL gw go ((r11 - x4)) ((-r11))) zv_X3_39 rfl rfl rfl ⟨Nat.le_of_ble_eq_true rfl, Nat.le_of_ble_eq_true rfl⟩ rfl (Nat.le_of_ble_eq_true rfl) dX3_moveTo_48 ⟨Nat.zero_le _, Nat.zero_le _⟩) (fun m16 H locs h15 hw => ?_)
    have em16 := h15
    refine lv_iload_n hx hb dX3_moveTo_51 rfl (lv_at hl 1 rfl) ?_
    exact zret_i C hr hlocks hw dX3_moveTo_52 ⟨(by first | rfl | exact (if_pos c11_5).symm | (subst_vars; first | rfl | exact (if_pos c11_5).symm)), (by first | rfl | exact (if_pos c11_5).symm | (subst_vars; first | rfl | exact (if_pos c11_5).symm))⟩
  · skip
    refine lv_iconst (v := 0) hx hb dX3_moveTo_14 (by decide) ?_
    exact zret_i C hr hlocks hw dX3_moveTo_15 ⟨(by first | rfl | exact (if_neg c11_5).symm | (subst_vars; first | rfl | exact (if_neg c11_5).symm)), (by first | rfl | exact (if_neg c11_5).symm | (subst_vars; first | rfl | exact (if_neg c11_5).symm))⟩

set_option maxHeartbeats 4000000 in
set_option maxRecDepth 100000 in
theorem c_X3_tellOfOre (l : Launch) (D : va_G) (cy : Nat → ClassId) (ad : ZN → Nat) (m : ZM) (sz : Nat) {L : List ZN} (hL : zL L) {w o : Nat} (gw : w < 2) (go : o < 47) (k : Int32) : Met l yX3_tellOfOre (zws yX3_tellOfOre cX3_tellOfOre 2 (some .int)) ({ frames := 2, cells := 0, slots := 0, locals := 43 } : Room) (zPc D cy ad L m sz [.ref (ad (7, w, o)), .int k]) (zQi (fun r m1 => r = q_tellOre m (7, w, o) k ∧ m1 = m) D cy ad L sz) 0 0 (zA ad L sz) := by
  refine zopen (Qc := fun sz => zQi (fun r m1 => r = q_tellOre m (7, w, o) k ∧ m1 = m) D cy ad L sz) RX3 (by decide) rfl (Nat.le_of_ble_eq_true rfl) ?_
  intro p e s mi below meth c ls C hr hlocks hml hl H locs hw
  obtain ⟨hx, hb, hts, hown, hK, hNw⟩ := id C
  have hl : lv_has ls 2 [(0, .ref (ad (7, w, o))), (1, .int k)] := hl
  refine lv_iload_n hx hb dX3_tellOfOre_0 rfl (lv_at hl 1 rfl) ?_
  by_cases q1 : k = 0
  · skip
    refine lv_lookup (off := 27) (tgt := 28) hx hb dX3_tellOfOre_1 (by decide) (by rw [q1]; decide) (by decide) ?_
    refine lv_aload_n hx hb dX3_tellOfOre_28 rfl (lv_at hl 0 rfl) ?_
    refine zg_X3_7 C hw (zn7 hL gw (by omega)) dX3_tellOfOre_29 ?_
    exact zret_i C hr hlocks hw dX3_tellOfOre_32 ⟨(by first | rfl | exact (if_pos q1).symm | (subst_vars; first | rfl | exact (if_pos q1).symm)), (by first | rfl | exact (if_pos q1).symm | (subst_vars; first | rfl | exact (if_pos q1).symm))⟩
  by_cases q2 : k = 1
  · skip
    refine lv_lookup (off := 32) (tgt := 33) hx hb dX3_tellOfOre_1 (by decide) (by rw [q2]; decide) (by decide) ?_
    refine lv_aload_n hx hb dX3_tellOfOre_33 rfl (lv_at hl 0 rfl) ?_
    refine zg_X3_13 C hw (zn7 hL gw (by omega)) dX3_tellOfOre_34 ?_
    exact zret_i C hr hlocks hw dX3_tellOfOre_37 ⟨(by first | rfl | exact ((if_neg q1).trans (if_pos q2)).symm | exact (if_pos q2).symm | (subst_vars; first | rfl | exact ((if_neg q1).trans (if_pos q2)).symm | exact (if_pos q2).symm)), (by first | rfl | exact ((if_neg q1).trans (if_pos q2)).symm | exact (if_pos q2).symm | (subst_vars; first | rfl | exact ((if_neg q1).trans (if_pos q2)).symm | exact (if_pos q2).symm))⟩
  refine lv_lookup (off := 37) (tgt := 38) hx hb dX3_tellOfOre_1 (by decide) ((lv_osw q1 (by decide)).trans ((lv_osw q2 (by decide)).trans rfl)) (by decide) ?_
  refine lv_aload_n hx hb dX3_tellOfOre_38 rfl (lv_at hl 0 rfl) ?_
  refine zg_X3_7 C hw (zn7 hL gw (by omega)) dX3_tellOfOre_39 ?_
  refine lv_aload_n hx hb dX3_tellOfOre_42 rfl (lv_at hl 0 rfl) ?_
  refine zg_X3_13 C hw (zn7 hL gw (by omega)) dX3_tellOfOre_43 ?_
  refine zafter_i C hw (zrunSN (rest := []) C hml hl.1 hw (c_X6_gradeOf l D cy ad m H.size (m (7, w, o) 0) (m (7, w, o) 1)) zv_X3_16 rfl rfl rfl ⟨Nat.le_of_ble_eq_true rfl, Nat.le_of_ble_eq_true rfl⟩ rfl (Nat.le_of_ble_eq_true rfl) dX3_tellOfOre_46 ⟨Nat.zero_le _, Nat.zero_le _⟩) (fun r5 m4 H locs h3 hw => ?_)
  obtain ⟨er5, h3⟩ := h3
  rw [h3] at hw
  clear h3 m4
  exact zret_i C hr hlocks hw dX3_tellOfOre_49 ⟨(by first | rfl | exact ((if_neg q1).trans (if_neg q2)).symm | exact (if_neg q2).symm | (subst_vars; first | rfl | exact ((if_neg q1).trans (if_neg q2)).symm | exact (if_neg q2).symm)), (by first | rfl | exact ((if_neg q1).trans (if_neg q2)).symm | exact (if_neg q2).symm | (subst_vars; first | rfl | exact ((if_neg q1).trans (if_neg q2)).symm | exact (if_neg q2).symm))⟩
end
