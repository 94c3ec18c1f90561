/-! the share: a method that may draw -/
abbrev zQd (post : UInt64 → ZM → Prop) (D : va_G) (cy : Nat → ClassId) (ad : ZN → Nat) (L : List ZN) (sz : Nat) : Array Value → State → Outcome → State → Prop := va_Qd post (zB D cy ad L sz) (zA ad L sz)
theorem zX_dr {p : Program} {s : State} {mi : MethodId} {args : Array Value} {c : Code} {cc : ByteArray} {own : String} {D : va_G} {cy : Nat → ClassId} {d0 : Drawn} (d : Drawn) (C : zX p (s.setDrawn d0) mi args c cc own D cy) : zX p (s.setDrawn d) mi args c cc own D cy := by
  obtain ⟨hx, hb, hts, hown, hK, hNw⟩ := C
  have h2 : ∀ w ∈ wsL_law, w.before args ((s.setDrawn d0).setDrawn d) = true := dr_words hts d
  exact ⟨hx, hb, h2, hown, va_K.moved (u := s.setDrawn d0) (U := s.setDrawn d) (Vm.Alike.refl _) hK, zNw_same (u := s.setDrawn d0) (U := s.setDrawn d) rfl hNw⟩
theorem zX_d0 {p : Program} {s : State} {mi : MethodId} {args : Array Value} {c : Code} {cc : ByteArray} {own : String} {D : va_G} {cy : Nat → ClassId} (d : Drawn) (C : zX p s mi args c cc own D cy) : zX p (s.setDrawn d) mi args c cc own D cy := by
  obtain ⟨hx, hb, hts, hown, hK, hNw⟩ := C
  exact ⟨hx, hb, dr_words hts d, hown, va_K.moved (u := s) (U := s.setDrawn d) (Vm.Alike.refl _) hK, zNw_same (u := s) (U := s.setDrawn d) rfl hNw⟩
theorem zopenD {l : Launch} {y : MethodName} {b : ByteArray} {maxL : Nat} {ret : Option FieldType} {rm : Room} {D : va_G} {cy : Nat → ClassId} {ad : ZN → Nat} {L : List ZN} {m : ZM} {sz : Nat} {av : List Value} {Qc : Nat → Array Value → State → Outcome → State → Prop} {mc ms : Nat} (own : String)
    (hy : plainName y.cls = true) (hown : y.cls = own) (hn : (lg_sl av).length ≤ maxL)
    (body : ∀ (p : Program) (e : Env) (s : State) (mi : MethodId) (below : List Frame) (meth : Method) (c : Code) (ls : Array Slot), zX p (s.setDrawn s.drawn) mi av.toArray c b own D cy → s.drawn.sameBut s.drawn lw_cs → meth.sig.returnType = ret → meth.locks = false → c.maxLocals = maxL → lv_has ls maxL (lv_args 0 av) → ∀ (H : Heap) (locs : List Loc), zH D cy ad L s.heap H locs m →
      W p l e rm (s.setDrawn s.drawn) mi av.toArray below meth c H locs 0 0 (MQD lw_cs below (Qc s.heap.size) av.toArray s mc ms (zA ad L s.heap.size)) (F0 mi 0 ls [])) :
    MetD lw_cs l y (zws y b maxL ret) rm (zPc D cy ad L m sz av) (Qc sz) mc ms (zA ad L sz) := by
  refine MetD.ofW (cc := b) (maxL := maxL) (ret := ret) hy rfl ?_
  intro p e s mi args below meth c s₁ B hml hv hd0
  obtain ⟨rfl, hsz, hP, hK, hD0, hNw⟩ := hv
  subst hsz
  have hts := atoms_spec (ws := zws y b maxL ret) B.pre
  have hD : va_D (zA ad L s.heap.size) (zw cy ad L m) := hD0.weaken (fun k q h _ => by
    obtain ⟨n, h1, h2⟩ := zw_mem h
    exact Or.inl ⟨n, h1, h2⟩)
  have hl := lv_entry av (n := maxL) hn
  rw [lg_entry_eq]
  have hfc : s.vm.findClass own = some mi.cls := by rw [← hown]; exact findClass_of_methodNamed B.named
  exact body p e s mi below meth c _ (zX_d0 s.drawn ⟨B.exec, B.bytes, fun w hw => hts w (List.mem_cons_of_mem _ hw), hfc, hK, hNw⟩) hd0 B.returns B.notSynchronized hml hl _ _ ⟨hP, hD, va_S.rf⟩
theorem zret_d {p : Program} {l : Launch} {e : Env} {R : Room} {s : State} {mi : MethodId} {args : Array Value} {below : List Frame} {meth : Method} {c : Code} {H : Heap} {locs : List Loc} {cells slots : Nat} {cc : ByteArray} {own : String} {pc : Nat} {ls : Array Slot} {D : va_G} {cy : Nat → ClassId} {ad : ZN → Nat} {L : List ZN} {m : ZM} {post : UInt64 → ZM → Prop} {r : UInt64} (C : zX p s mi args c cc own D cy) (hr : meth.sig.returnType = some .double) (hlocks : meth.locks = false) (hw : zH D cy ad L s.heap H locs m) (hdg : decode cc pc = .ok (.dreturn, 1)) (hp : post r m) :
    W p l e R s mi args below meth c H locs cells slots (MQ below (zQd post D cy ad L s.heap.size) args s cells slots (zA ad L s.heap.size)) (F0 mi pc ls [.double r]) :=
  W.dret C.1 C.2.1 hr (fun t ht hW => ⟨⟨r, m, rfl, hp, zB_of C hw ht hW⟩, hw.2.2.F ht⟩) hw.2.2.2.2 hdg hlocks
theorem zal_0 : alike64 FP.dconst0 FP.dconst0 = true := by decide +kernel
def q8_shA (m : ZM) : Int32 := m (12, 0, 0) 6 + m (13, 0, 0) 17 + m (12, 0, 0) 5
def q8_share (m : ZM) : UInt64 := if q8_shA m = 0 then FP.dconst0 else FP.ddiv (FP.i2d (m (12, 0, 0) 6)) (FP.i2d (q8_shA m))
def q6_shA (m : ZM) : Int64 := (m (1, 0, 0) 11).toInt64 + (m (1, 0, 0) 10).toInt64 + (m (7, 0, 46) 1).toInt64
def q6_share (m : ZM) : UInt64 := if lg_cmp (q6_shA m) 0 = 0 then FP.dconst0 else FP.ddiv (FP.i2d (m (1, 0, 0) 11)) (FP.l2d (q6_shA m))

set_option maxHeartbeats 4000000 in
set_option maxRecDepth 100000 in
theorem c_X8_share (l : Launch) (D : va_G) (cy : Nat → ClassId) (ad : ZN → Nat) (m : ZM) (sz : Nat) {L : List ZN} (hL : zL L) : MetD lw_cs l yX8_share (zws yX8_share cX8_share 2 (some .double)) ({ frames := 0, cells := 0, slots := 0, locals := 0 } : Room) (zPc D cy ad L m sz [.ref (ad (12, 0, 0))]) (zQd (fun r m1 => alike64 r (q8_share (q8_z m)) = true ∧ m1 = q8_z m) D cy ad L sz) 0 0 (zA ad L sz) := by
  refine zopenD (Qc := fun sz => zQd (fun r m1 => alike64 r (q8_share (q8_z m)) = true ∧ m1 = q8_z m) D cy ad L sz) RX8 (by decide +kernel) rfl (Nat.le_of_ble_eq_true rfl) ?_
  intro p e s mi below meth c ls C hd0 hr hlocks hml hl H locs hw
  obtain ⟨hx, hb, hts, hown, hK, hNw⟩ := id C
  have hl : lv_has ls 2 [(0, .ref (ad (12, 0, 0)))] := hl
  refine lv_aload_n hx hb dX8_share_0 rfl (lv_at hl 0 rfl) ?_
  refine lv_iconst (v := 0) hx hb dX8_share_1 (by decide) ?_
  refine zp_X8_23 C hw (zn12 hL) dX8_share_2 (fun H locs m1 em1 hw => ?_)
  refine lv_aload_n hx hb dX8_share_5 rfl (lv_at hl 0 rfl) ?_
  refine zg_X8_118 C hw (zn12 hL) dX8_share_6 ?_
  refine lv_aload_n hx hb dX8_share_9 rfl (lv_at hl 0 rfl) ?_
  refine zg_X8_10 C hw (zn12 hL) dX8_share_10 ?_
  refine zg_X8_109 C hw (zn13 hL (by decide)) dX8_share_13 ?_
  refine lv_iadd hx hb dX8_share_16 ?_
  refine lv_aload_n hx hb dX8_share_17 rfl (lv_at hl 0 rfl) ?_
  refine zg_X8_112 C hw (zn12 hL) dX8_share_18 ?_
  refine lv_iadd hx hb dX8_share_21 ?_
  refine lv_topi (fun x2 ex2 => ?_)
  refine lv_istore_n (lv' := [(1, .int x2), (0, .ref (ad (12, 0, 0)))]) hx hb dX8_share_22 rfl hl (by decide) rfl (fun ls hl => ?_)
  refine lv_iload_n hx hb dX8_share_23 rfl (lv_at hl 0 rfl) ?_
  refine lv_if_ne (tgt := 31) hx hb dX8_share_24 (by decide) (fun c24_3 => ?_) (fun c24_3 => ?_)
  · skip
    refine lv_aload_n hx hb dX8_share_31 rfl (lv_at hl 1 rfl) ?_
    refine zg_X8_118 C hw (zn12 hL) dX8_share_32 ?_
    refine lv_i2d hx hb dX8_share_35 ?_
    refine lv_iload_n hx hb dX8_share_36 rfl (lv_at hl 0 rfl) ?_
    refine lv_i2d hx hb dX8_share_37 ?_
    refine lv_ddiv_any hd0 lw_bits hx hb dX8_share_38 (fun r4 d1 hal hd0 => ?_)
    have C := zX_dr d1 C
    refine W.endD hd0 ?_
    exact zret_d C hr hlocks hw dX8_share_39 ⟨by subst ex2 em1; rw [show q8_share (q8_z m) = FP.ddiv (FP.i2d (q8_z m (12, 0, 0) 6)) (FP.i2d (q8_shA (q8_z m))) from if_neg c24_3]; exact hal, em1⟩
  · skip
    refine lv_dconst0 hx hb dX8_share_27 ?_
    refine lv_goto (tgt := 39) hx hb dX8_share_28 (by decide) ?_
    refine W.endD hd0 ?_
    exact zret_d C hr hlocks hw dX8_share_39 ⟨by subst ex2 em1; rw [show q8_share (q8_z m) = FP.dconst0 from if_pos c24_3]; exact zal_0, em1⟩

set_option maxHeartbeats 4000000 in
set_option maxRecDepth 100000 in
theorem c_X6_share (l : Launch) (D : va_G) (cy : Nat → ClassId) (ad : ZN → Nat) (m : ZM) (sz : Nat) {L : List ZN} (hL : zL L) : MetD lw_cs l yX6_share (zws yX6_share cX6_share 3 (some .double)) ({ frames := 0, cells := 0, slots := 0, locals := 0 } : Room) (zPc D cy ad L m sz [.ref (ad (0, 0, 0))]) (zQd (fun r m1 => alike64 r (q6_share m) = true ∧ m1 = m) D cy ad L sz) 0 0 (zA ad L sz) := by
  refine zopenD (Qc := fun sz => zQd (fun r m1 => alike64 r (q6_share m) = true ∧ m1 = m) D cy ad L sz) RX6 (by decide +kernel) rfl (Nat.le_of_ble_eq_true rfl) ?_
  intro p e s mi below meth c ls C hd0 hr hlocks hml hl H locs hw
  obtain ⟨hx, hb, hts, hown, hK, hNw⟩ := id C
  have hl : lv_has ls 3 [(0, .ref (ad (0, 0, 0)))] := hl
  refine lv_aload_n hx hb dX6_share_0 rfl (lv_at hl 0 rfl) ?_
  refine zg_X6_10 C hw (zn0 hL) dX6_share_1 ?_
  refine zg_X6_218 C hw (zn1 hL (by decide)) dX6_share_4 ?_
  refine lv_i2l hx hb dX6_share_7 rfl ?_
  refine lv_aload_n hx hb dX6_share_8 rfl (lv_at hl 0 rfl) ?_
  refine zg_X6_10 C hw (zn0 hL) dX6_share_9 ?_
  refine zg_X6_194 C hw (zn1 hL (by decide)) dX6_share_12 ?_
  refine lv_i2l hx hb dX6_share_15 rfl ?_
  refine lv_ladd hx hb dX6_share_16 ?_
  refine lv_aload_n hx hb dX6_share_17 rfl (lv_at hl 0 rfl) ?_
  refine zg_X6_10 C hw (zn0 hL) dX6_share_18 ?_
  refine zg_X6_221 C hw (zn1 hL (by decide)) dX6_share_21 ?_
  refine zg_X6_202 C hw (zn7 hL (by decide) (by omega)) dX6_share_24 ?_
  refine lv_i2l hx hb dX6_share_27 rfl ?_
  refine lv_ladd hx hb dX6_share_28 ?_
  refine lv_topl (fun x1 ex1 => ?_)
  refine lv_lstore_n (lv' := [(1, .long x1), (0, .ref (ad (0, 0, 0)))]) hx hb dX6_share_29 rfl hl (by decide) rfl (fun ls hl => ?_)
  refine lv_lload_n hx hb dX6_share_30 rfl (lv_at hl 0 rfl) ?_
  refine lv_lconst (v := 0) hx hb dX6_share_31 (by decide) ?_
  refine W.lcmp hx hb dX6_share_32 ?_
  refine lv_if_ne (tgt := 38) hx hb dX6_share_33 (by decide) (fun c33_2 => ?_) (fun c33_2 => ?_)
  · skip
    refine lv_aload_n hx hb dX6_share_38 rfl (lv_at hl 1 rfl) ?_
    refine zg_X6_10 C hw (zn0 hL) dX6_share_39 ?_
    refine zg_X6_218 C hw (zn1 hL (by decide)) dX6_share_42 ?_
    refine lv_i2d hx hb dX6_share_45 ?_
    refine lv_lload_n hx hb dX6_share_46 rfl (lv_at hl 0 rfl) ?_
    refine lv_l2d hx hb dX6_share_47 ?_
    refine lv_ddiv_any hd0 lw_bits hx hb dX6_share_48 (fun r3 d1 hal hd0 => ?_)
    have C := zX_dr d1 C
    refine W.endD hd0 ?_
    exact zret_d C hr hlocks hw dX6_share_49 ⟨by subst ex1; rw [show q6_share m = FP.ddiv (FP.i2d (m (1, 0, 0) 11)) (FP.l2d (q6_shA m)) from if_neg c33_2]; exact hal, rfl⟩
  · skip
    refine lv_dconst0 hx hb dX6_share_36 ?_
    refine W.endD hd0 ?_
    exact zret_d C hr hlocks hw dX6_share_37 ⟨by subst ex1; rw [show q6_share m = FP.dconst0 from if_pos c33_2]; exact zal_0, rfl⟩
