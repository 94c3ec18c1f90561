/-! the law's loop (by program: wip/whole/sp23.py) -/
/-- what the loop needs of the machine and of the start -/
def lwF (l : Launch) (p : Program) (s : State) (mi : MethodId) (meth : Method) (c : Code) (b LX : Nat) (xs : Nat → Int32) (D : va_G) (cy : Nat → ClassId) (ad : ZN → Nat) (L : List ZN) : Prop :=
  l.stackTraces = false ∧ zX p s mi #[Value.ref b] c code RL D cy ∧ zE (zA ad L s.heap.size) s s.heap ∧ zNcs s ∧ va_X b LX xs s s.heap ∧ b < s.heap.size ∧ ¬ zA ad L s.heap.size b ∧ (∀ q, zA ad L s.heap.size q → s.heap.size ≤ q) ∧ meth.sig.returnType = ret ∧ meth.locks = false ∧ c.maxLocals = 9 ∧ zL L ∧ (2, 70, 14) ∉ L ∧ (2, 71, 2) ∉ L ∧ LX ≤ 2048
abbrev lwl (b : Nat) (ad : ZN → Nat) (x : Int32) : List (Nat × Value) := [(4, .int x), (3, .ref (ad (14, 0, 0))), (2, .ref (ad (12, 0, 0))), (1, .ref (ad (0, 0, 0))), (0, .ref b)]
/-- from here the law comes to its end: k steps are behind, i stands at step n -/
def lwK (p : Program) (l : Launch) (e : Env) (s : State) (mi : MethodId) (below : List Frame) (meth : Method) (c : Code) (b : Nat) (D : va_G) (cy : Nat → ClassId) (ad : ZN → Nat) (L : List ZN) (k n pc : Nat) : Prop :=
  ∀ (d0 : Drawn), s.drawn.sameBut d0 lw_cs → ∀ (H : Heap) (locs : List Loc) (ls : Array Slot) (m : ZM) (bc : Nat) (sc bu : Nat → Nat) (hq f cn : Nat), RQ m m k bc sc bu hq f cn → zH D cy ad L s.heap H locs m → lv_has ls 9 (lwl b ad (nI (4 * n))) →
    W p l e room_1 (s.setDrawn d0) mi #[Value.ref b] below meth c H locs (300 + 20 * k) (1500 + 220 * k) (lw_Z below #[Value.ref b] s) (F0 mi pc ls [])
section LW
variable {p : Program} {l : Launch} {e : Env} {R : Room} {s : State} {mi : MethodId} {args : Array Value} {below : List Frame} {meth : Method} {c : Code} {H H0 : Heap} {locs : List Loc} {cells slots : Nat} {Q : State → Prop}
variable {cc : ByteArray} {own : String} {pc : Nat} {ls : Array Slot} {rest : List Value} {D : va_G} {cy : Nat → ClassId} {ad : ZN → Nat} {L : List ZN} {m : ZM} {b LX : Nat} {xs : Nat → Int32} {d0 : Drawn}
theorem lw_sld (F : lwF l p s mi meth c b LX xs D cy ad L) (hw : zH D cy ad L s.heap H locs m) {x : Int32} {k : Nat} (hx : x = nI k) (hk : k < LX) (hdg : decode code pc = .ok (.iaload, 1))
    (kk : W p l e R (s.setDrawn d0) mi #[Value.ref b] below meth c H locs cells slots Q (F0 mi (pc + 1) ls (.int (xs k) :: rest))) : W p l e R (s.setDrawn d0) mi #[Value.ref b] below meth c H locs cells slots Q (F0 mi pc ls (.int x :: .ref b :: rest)) := by
  obtain ⟨-, C, -, -, hX, hbl, hbA, -, -, -, -, -, -, -, hLX⟩ := F
  obtain ⟨h1, h2⟩ := zix hx hk (by omega)
  have hX : va_X b LX xs (s.setDrawn d0) s.heap := va_X.moved (u := s) (U := s.setDrawn d0) (Vm.Alike.refl _) hX
  have g := va_sld (p := p) (l := l) (e := e) (R := R) (s := s.setDrawn d0) (m := mi) (args := #[Value.ref b]) (below := below) (meth := meth) (c := c) (H := H) (locs := locs) (cells := cells) (slots := slots) (Q := Q) (ls := ls) (rest := rest) (pc := pc) C.1 C.2.1 hX hbl hbA hw.2.2 h1 hdg
  rw [h2] at g
  exact g kk
theorem lw_slen (F : lwF l p s mi meth c b LX xs D cy ad L) (hw : zH D cy ad L s.heap H locs m) (hdg : decode code pc = .ok (.arraylength, 1))
    (kk : W p l e R (s.setDrawn d0) mi #[Value.ref b] below meth c H locs cells slots Q (F0 mi (pc + 1) ls (.int (nI LX) :: rest))) : W p l e R (s.setDrawn d0) mi #[Value.ref b] below meth c H locs cells slots Q (F0 mi pc ls (.ref b :: rest)) := by
  obtain ⟨-, C, -, -, hX, hbl, hbA, -⟩ := F
  have hX : va_X b LX xs (s.setDrawn d0) s.heap := va_X.moved (u := s) (U := s.setDrawn d0) (Vm.Alike.refl _) hX
  exact va_slen C.1 C.2.1 hX hbl hbA hw.2.2 hdg kk
variable {mc ms : Nat} {st : List Value} {aa : Array Value}
theorem zafter_lC {post : Int64 → ZM → Prop} (C : zX p s mi args c cc own D cy) (hw : zH D cy ad L s.heap H locs m) (hr : va_Run p l e R s mi args below meth c H locs cells slots mc ms (F0 mi pc ls st) rest (zQl post D cy ad L H.size aa) (zA ad L H.size))
    (kk : ∀ (r : Int64) (m1 : ZM) (H1 : Heap) (locs1 : List Loc), post r m1 → zH D cy ad L s.heap H1 locs1 m1 → W p l e R s mi args below meth c H1 locs1 (cells + mc) (slots + ms) Q (F0 mi (pc + 3) ls (.long r :: rest))) : W p l e R s mi args below meth c H locs cells slots Q (F0 mi pc ls st) :=
  va_calll hr hw.2.2 (zhA hw).1 (zhA hw).2 (fun r u t H1 locs1 ht _ hpo hB _ _ hS => kk r u H1 locs1 hpo (zback C hw ht hB hS))
variable {y : MethodName} {bb : ByteArray} {maxL nL na index : Nat} {rt : Option FieldType} {rm : Room} {n : ZN} {As : List Value}
/-- a call of a method that may draw -/
theorem zcallD {post : UInt64 → ZM → Prop} (hd0 : s.drawn.sameBut d0 lw_cs) (C : zX p (s.setDrawn d0) mi args c cc own D cy) (hml : c.maxLocals = nL) (hls : ls.size = nL) (hw : zH D cy ad L s.heap H locs m) (hn : n ∈ L) {ci : Nat} {fs : List Value} (hc : zc cy ad n (m n) = .inr (ci, fs)) {Cn : String} {T : u_T} {N : Nat} (hcl : vwCl[ci]? = some (Cn, T, N))
    (hM : MetD lw_cs l y (zws y bb maxL rt) rm (zPc D cy ad L m H.size (.ref (ad n) :: As)) (zQd post D cy ad L H.size) 0 0 (zA ad L H.size)) (hG : zGV own index Cn y bb maxL rt na) (hna : As.length = na) (hrc : rm.cells = 0) (hrs : rm.slots = 0) (hR : rm.frames + 1 ≤ R.frames ∧ 8 + (maxL + 11) + rm.locals ≤ R.locals) (hst : st = As.reverse ++ .ref (ad n) :: rest) (hrest : (rest.map fun v => v.category).sum ≤ 8)
    (hdg : decode cc pc = .ok (.invokevirtual index, 3)) (hf : cells ≤ R.cells ∧ slots ≤ R.slots)
    (kk : ∀ (r : UInt64) (m1 : ZM) (H1 : Heap) (locs1 : List Loc), post r m1 → zH D cy ad L s.heap H1 locs1 m1 → ∀ d1 : Drawn, s.drawn.sameBut d1 lw_cs → W p l e R (s.setDrawn d1) mi args below meth c H1 locs1 cells slots Q (F0 mi (pc + 3) ls (.double r :: rest))) : W p l e R (s.setDrawn d0) mi args below meth c H locs cells slots Q (F0 mi pc ls st) := by
  have hw2 : zH D cy ad L (s.setDrawn d0).heap H locs m := hw
  exact va_calldD hd0 (va_runV_D (b := ad n) (As := As) (rest := rest) (nL := nL) ⟨C.1, C.2.1, hml, C.2.2.2.1, C.2.2.1⟩ hM (cwV na C.2.2.1 hG.1 rfl hrc hrs hG.2 hR) ⟨zPc_blind, zrecv C hw2 hn hc hcl, zpre C hw2⟩ rfl hna hls hst (lv_room hrest) hdg hf) hw.2.2 (zhA hw).1 (zhA hw).2 (fun r u t H1 locs1 ht _ hpo hB _ _ hS d1 hd1 => kk r u H1 locs1 hpo (zback (s := s.setDrawn d0) C hw2 ht hB hS) d1 hd1)
/-! numbers that are no numbers -/
theorem lw_dnan {x y : UInt64} (h : isNaN64 x = true) : ¬ Op.cmpValue (FP.dcmp x y) CmpOp.l = 0 := by
  have h1 := isNaN64_iff.mp h
  rw [show (0x7fffffffffffffff : Nat) = 2 ^ 63 - 1 from rfl, Nat.and_two_pow_sub_one_eq_mod] at h1
  have h2 : FP.Core.decode FP.Core.b64 x.toNat = .nan := by
    have e1 : FP.Core.fieldE FP.Core.b64 x.toNat = 2047 := by
      show x.toNat / 4503599627370496 % 2048 = 2047
      omega
    have e2 : ¬ FP.Core.fieldT FP.Core.b64 x.toNat = 0 := by
      show ¬ x.toNat % 4503599627370496 = 0
      omega
    unfold FP.Core.decode
    rw [if_pos (by rw [e1]; rfl), if_neg e2]
  have h3 : FP.dcmp x y = none := by
    show FP.Core.order (FP.Core.decode FP.Core.b64 x.toNat) (FP.Core.decode FP.Core.b64 y.toNat) = none
    rw [h2]
    rfl
  rw [h3]
  decide
theorem lw_alike {r1 r2 q : UInt64} (h1 : alike64 r1 q = true) (h2 : alike64 r2 q = true) (h : ¬ Op.cmpValue (FP.dcmp r1 r2) CmpOp.l = 0) : ¬ Op.cmpValue (FP.dcmp r1 r1) CmpOp.l = 0 ∧ ¬ Op.cmpValue (FP.dcmp r2 r2) CmpOp.l = 0 := by
  simp only [alike64, Bool.or_eq_true, decide_eq_true_eq, Bool.and_eq_true] at h1 h2
  rcases h1 with rfl | ⟨h1, h1q⟩
  · rcases h2 with rfl | ⟨h2, h2q⟩
    · exact ⟨h, h⟩
    · exact ⟨lw_dnan h2q, lw_dnan h2⟩
  · rcases h2 with rfl | ⟨h2, h2q⟩
    · exact ⟨lw_dnan h1, lw_dnan h1q⟩
    · exact ⟨lw_dnan h1, lw_dnan h2⟩
end LW

theorem lw_cmp0 {a : Int64} : lg_cmp a a = 0 := by simp [lg_cmp]
set_option maxHeartbeats 4000000 in
set_option maxRecDepth 100000 in
theorem lw_case_setInflow {p : Program} {l : Launch} {e : Env} {s : State} {mi : MethodId} {below : List Frame} {meth : Method} {c : Code} {b LX : Nat} {xs : Nat → Int32} {D : va_G} {cy : Nat → ClassId} {ad : ZN → Nat} {L : List ZN} (F : lwF l p s mi meth c b LX xs D cy ad L) {n : Nat} (hn : 4 * n + 4 ≤ LX) (K : lwK p l e s mi below meth c b D cy ad L (n + 1) n 1351) : lwK p l e s mi below meth c b D cy ad L n n 132 := by
  intro d0 hd0 H locs ls m bc sc bu hq f cn R hw hl
  obtain ⟨hst, C, E, N, hX, hbl, hbA, hAs, hr, hlocks, hml, hL, hn0, hn1, hLX⟩ := id F
  have C := zX_d0 d0 C
  have E : zE (zA ad L (s.setDrawn d0).heap.size) (s.setDrawn d0) (s.setDrawn d0).heap := zE_same (u := s) (U := s.setDrawn d0) rfl E
  have N : zNcs (s.setDrawn d0) := zNcs_to (u := s) (U := s.setDrawn d0) (Vm.Alike.refl _) N
  have hw : zH D cy ad L (s.setDrawn d0).heap H locs m := hw
  have hx := C.1
  have hb := C.2.1
  have T := tc_setInflow R (show n < 512 by omega) (xs (4 * n + 1)) (xs (4 * n + 2))
  unfold tDone at T
  refine lv_aload_n hx hb dL_law_132 rfl (lv_at hl 3 rfl) ?_
  refine lv_aload_n hx hb dL_law_133 rfl (lv_at hl 4 rfl) ?_
  refine lv_iload hx hb dL_law_134 (lv_at hl 0 rfl) ?_
  refine lv_iconst (v := 1) hx hb dL_law_136 (by decide) ?_
  refine lv_iadd hx hb dL_law_137 ?_
  refine lw_sld F hw (k := 4 * n + 1) (zadd (b := 1) rfl rfl) (by omega) dL_law_138 ?_
  refine lv_aload_n hx hb dL_law_139 rfl (lv_at hl 4 rfl) ?_
  refine lv_iload hx hb dL_law_140 (lv_at hl 0 rfl) ?_
  refine lv_iconst (v := 2) hx hb dL_law_142 (by decide) ?_
  refine lv_iadd hx hb dL_law_143 ?_
  refine lw_sld F hw (k := 4 * n + 2) (zadd (b := 2) rfl rfl) (by omega) dL_law_144 ?_
  refine lv_aload_n hx hb dL_law_145 rfl (lv_at hl 1 rfl) ?_
  refine zafter_iC C hw (zrunSW (As := [.ref (ad (0, 0, 0)), .int (xs (4 * n + 1)), .int (xs (4 * n + 2)), .ref (ad (14, 0, 0))]) (rest := []) C E N hml hl.1 hw (c_L_setInflow l hst D cy ad m H.size hL (xs (4 * n + 1)) (xs (4 * n + 2))) zv_L_77 rfl rfl rfl ⟨Nat.le_of_ble_eq_true rfl, Nat.le_of_ble_eq_true rfl⟩ rfl (Nat.le_of_ble_eq_true rfl) dL_law_146 ⟨(show (300 + 20 * n) + 1 ≤ 601024 by omega), (show (1500 + 220 * n) + 6 ≤ 7293034 by omega)⟩) (fun r1 m1 H locs hr1 hw => ?_)
  obtain ⟨e1, e2⟩ := hr1
  rw [← e2, ← e1] at T
  obtain ⟨G1, h12, h14, R1⟩ := T
  have h12 : (q8_setInflow m1 (xs (4 * n + 1)) (xs (4 * n + 2))).2 (12, 0, 0) 0 = r1 := h12
  have h14 : r1 = 0 → (q8_setInflow m1 (xs (4 * n + 1)) (xs (4 * n + 2))).2 (14, 0, 0) 0 = (q8_setInflow m1 (xs (4 * n + 1)) (xs (4 * n + 2))).1 := h14
  have R1 : ∃ bc1 sc1 bu1 hq1 f1 cn1, RQ (q8_setInflow m1 (xs (4 * n + 1)) (xs (4 * n + 2))).2 (q8_setInflow m1 (xs (4 * n + 1)) (xs (4 * n + 2))).2 (n + 1) bc1 sc1 bu1 hq1 f1 cn1 := R1
  refine lv_istore (lv' := (5, .int r1) :: lwl b ad (nI (4 * n))) hx hb dL_law_149 hl (by decide) rfl (fun ls hl => ?_)
  refine lv_aload_n hx hb dL_law_151 rfl (lv_at hl 3 rfl) ?_
  refine lv_aload_n hx hb dL_law_152 rfl (lv_at hl 5 rfl) ?_
  refine lv_iload hx hb dL_law_153 (lv_at hl 1 rfl) ?_
  refine lv_iconst (v := 1) hx hb dL_law_155 (by decide) ?_
  refine lv_iadd hx hb dL_law_156 ?_
  refine lw_sld F hw (k := 4 * n + 1) (zadd (b := 1) rfl rfl) (by omega) dL_law_157 ?_
  refine lv_aload_n hx hb dL_law_158 rfl (lv_at hl 5 rfl) ?_
  refine lv_iload hx hb dL_law_159 (lv_at hl 1 rfl) ?_
  refine lv_iconst (v := 2) hx hb dL_law_161 (by decide) ?_
  refine lv_iadd hx hb dL_law_162 ?_
  refine lw_sld F hw (k := 4 * n + 2) (zadd (b := 2) rfl rfl) (by omega) dL_law_163 ?_
  refine zafter_iC C hw (zrunV (As := [.int (xs (4 * n + 1)), .int (xs (4 * n + 2))]) (rest := []) C hml hl.1 hw (zn12 hL) rfl rfl (c_X8_setInflow l D cy ad m1 H.size hL G1 (xs (4 * n + 1)) (xs (4 * n + 2))) zv_L_82 rfl rfl rfl ⟨Nat.le_of_ble_eq_true rfl, Nat.le_of_ble_eq_true rfl⟩ rfl (Nat.le_of_ble_eq_true rfl) dL_law_164 ⟨(show (300 + 20 * n) + 1 + 0 ≤ 601024 by omega), (show (1500 + 220 * n) + 6 + 0 ≤ 7293034 by omega)⟩) (fun r2 m2 H locs hr2 hw => ?_)
  obtain ⟨e3, e4⟩ := hr2
  rw [← e4] at h12 R1
  rw [← e4, ← e3] at h14
  obtain ⟨bc1, sc1, bu1, hq1, f1, cn1, R1⟩ := R1
  refine lv_istore (lv' := (6, .int r2) :: (5, .int r1) :: lwl b ad (nI (4 * n))) hx hb dL_law_167 hl (by decide) rfl (fun ls hl => ?_)
  refine lv_aload_n hx hb dL_law_169 rfl (lv_at hl 4 rfl) ?_
  refine zafter_iC C hw (zrunV (As := []) (rest := []) C hml hl.1 hw (zn12 hL) rfl rfl (c_X8_thrown l D cy ad m2 H.size hL) zv_L_83 rfl rfl rfl ⟨Nat.le_of_ble_eq_true rfl, Nat.le_of_ble_eq_true rfl⟩ rfl (Nat.le_of_ble_eq_true rfl) dL_law_170 ⟨(show ((300 + 20 * n) + 1) + 0 + 0 ≤ 601024 by omega), (show ((1500 + 220 * n) + 6) + 0 + 0 ≤ 7293034 by omega)⟩) (fun r3 m3 H locs hr3 hw => ?_)
  obtain ⟨e5, e6⟩ := hr3
  rw [e6] at hw
  rw [h12] at e5
  refine lv_iload hx hb dL_law_173 (lv_at hl 1 rfl) ?_
  refine lv_icmp_eq (tgt := 180) hx hb dL_law_175 (by decide) (fun _ => ?_) (fun z => absurd e5 z)
  refine lv_iload hx hb dL_law_180 (lv_at hl 1 rfl) ?_
  have fin : W p l e room_1 (s.setDrawn d0) mi #[Value.ref b] below meth c H locs ((300 + 20 * n) + 1 + 0 + 0) (1500 + 220 * n + 6 + 0 + 0) (lw_Z below #[Value.ref b] s) (F0 mi 197 ls []) := by
    refine lv_goto (tgt := 1351) hx hb dL_law_197 (by decide) ?_
    refine W.widen (k := 300 + 20 * (n + 1)) (n := 1500 + 220 * (n + 1)) (by omega) (by omega) ?_
    exact K d0 hd0 H locs ls m2 bc1 sc1 bu1 hq1 f1 cn1 R1 hw (lv_sub hl [2, 3, 4, 5, 6] rfl)
  refine lv_if_ne (tgt := 197) hx hb dL_law_182 (by decide) (fun _ => fin) (fun z0 => ?_)
  have h14 := h14 z0
  refine lv_aload_n hx hb dL_law_185 rfl (lv_at hl 3 rfl) ?_
  refine lv_iconst (v := 0) hx hb dL_law_186 (by decide) ?_
  refine zlald C hw (zn14 hL) dL_law_187 ?_
  refine lv_iload hx hb dL_law_188 (lv_at hl 0 rfl) ?_
  refine lv_i2l hx hb dL_law_190 rfl ?_
  refine W.lcmp hx hb dL_law_191 ?_
  refine lv_if_eq (tgt := 197) hx hb dL_law_192 (by decide) (fun _ => fin) (fun z => absurd (by rw [h14]; exact lw_cmp0) z)
set_option maxHeartbeats 4000000 in
set_option maxRecDepth 100000 in
theorem lw_case_setSluice {p : Program} {l : Launch} {e : Env} {s : State} {mi : MethodId} {below : List Frame} {meth : Method} {c : Code} {b LX : Nat} {xs : Nat → Int32} {D : va_G} {cy : Nat → ClassId} {ad : ZN → Nat} {L : List ZN} (F : lwF l p s mi meth c b LX xs D cy ad L) {n : Nat} (hn : 4 * n + 4 ≤ LX) (K : lwK p l e s mi below meth c b D cy ad L (n + 1) n 1351) : lwK p l e s mi below meth c b D cy ad L n n 200 := by
  intro d0 hd0 H locs ls m bc sc bu hq f cn R hw hl
  obtain ⟨hst, C, E, N, hX, hbl, hbA, hAs, hr, hlocks, hml, hL, hn0, hn1, hLX⟩ := id F
  have C := zX_d0 d0 C
  have E : zE (zA ad L (s.setDrawn d0).heap.size) (s.setDrawn d0) (s.setDrawn d0).heap := zE_same (u := s) (U := s.setDrawn d0) rfl E
  have N : zNcs (s.setDrawn d0) := zNcs_to (u := s) (U := s.setDrawn d0) (Vm.Alike.refl _) N
  have hw : zH D cy ad L (s.setDrawn d0).heap H locs m := hw
  have hx := C.1
  have hb := C.2.1
  have T := tc_setSluice R (show n < 512 by omega) (xs (4 * n + 1))
  unfold tDone at T
  refine lv_aload_n hx hb dL_law_200 rfl (lv_at hl 3 rfl) ?_
  refine lv_aload_n hx hb dL_law_201 rfl (lv_at hl 4 rfl) ?_
  refine lv_iload hx hb dL_law_202 (lv_at hl 0 rfl) ?_
  refine lv_iconst (v := 1) hx hb dL_law_204 (by decide) ?_
  refine lv_iadd hx hb dL_law_205 ?_
  refine lw_sld F hw (k := 4 * n + 1) (zadd (b := 1) rfl rfl) (by omega) dL_law_206 ?_
  refine lv_aload_n hx hb dL_law_207 rfl (lv_at hl 1 rfl) ?_
  refine zafter_iC C hw (zrunSW (As := [.ref (ad (0, 0, 0)), .int (xs (4 * n + 1)), .ref (ad (14, 0, 0))]) (rest := []) C E N hml hl.1 hw (c_L_setSluice l hst D cy ad m H.size hL (xs (4 * n + 1))) zv_L_86 rfl rfl rfl ⟨Nat.le_of_ble_eq_true rfl, Nat.le_of_ble_eq_true rfl⟩ rfl (Nat.le_of_ble_eq_true rfl) dL_law_208 ⟨(show (300 + 20 * n) + 1 ≤ 601024 by omega), (show (1500 + 220 * n) + 6 ≤ 7293034 by omega)⟩) (fun r1 m1 H locs hr1 hw => ?_)
  obtain ⟨e1, e2⟩ := hr1
  rw [← e2, ← e1] at T
  obtain ⟨G1, h12, h14, R1⟩ := T
  have h12 : (q8_setSluice m1 (xs (4 * n + 1))).2 (12, 0, 0) 0 = r1 := h12
  have h14 : r1 = 0 → (q8_setSluice m1 (xs (4 * n + 1))).2 (14, 0, 0) 0 = (q8_setSluice m1 (xs (4 * n + 1))).1 := h14
  have R1 : ∃ bc1 sc1 bu1 hq1 f1 cn1, RQ (q8_setSluice m1 (xs (4 * n + 1))).2 (q8_setSluice m1 (xs (4 * n + 1))).2 (n + 1) bc1 sc1 bu1 hq1 f1 cn1 := R1
  refine lv_istore (lv' := (5, .int r1) :: lwl b ad (nI (4 * n))) hx hb dL_law_211 hl (by decide) rfl (fun ls hl => ?_)
  refine lv_aload_n hx hb dL_law_213 rfl (lv_at hl 3 rfl) ?_
  refine lv_aload_n hx hb dL_law_214 rfl (lv_at hl 5 rfl) ?_
  refine lv_iload hx hb dL_law_215 (lv_at hl 1 rfl) ?_
  refine lv_iconst (v := 1) hx hb dL_law_217 (by decide) ?_
  refine lv_iadd hx hb dL_law_218 ?_
  refine lw_sld F hw (k := 4 * n + 1) (zadd (b := 1) rfl rfl) (by omega) dL_law_219 ?_
  refine zafter_iC C hw (zrunV (As := [.int (xs (4 * n + 1))]) (rest := []) C hml hl.1 hw (zn12 hL) rfl rfl (c_X8_setSluice l D cy ad m1 H.size hL G1 (xs (4 * n + 1))) zv_L_89 rfl rfl rfl ⟨Nat.le_of_ble_eq_true rfl, Nat.le_of_ble_eq_true rfl⟩ rfl (Nat.le_of_ble_eq_true rfl) dL_law_220 ⟨(show (300 + 20 * n) + 1 + 0 ≤ 601024 by omega), (show (1500 + 220 * n) + 6 + 0 ≤ 7293034 by omega)⟩) (fun r2 m2 H locs hr2 hw => ?_)
  obtain ⟨e3, e4⟩ := hr2
  rw [← e4] at h12 R1
  rw [← e4, ← e3] at h14
  obtain ⟨bc1, sc1, bu1, hq1, f1, cn1, R1⟩ := R1
  refine lv_istore (lv' := (6, .int r2) :: (5, .int r1) :: lwl b ad (nI (4 * n))) hx hb dL_law_223 hl (by decide) rfl (fun ls hl => ?_)
  refine lv_aload_n hx hb dL_law_225 rfl (lv_at hl 4 rfl) ?_
  refine zafter_iC C hw (zrunV (As := []) (rest := []) C hml hl.1 hw (zn12 hL) rfl rfl (c_X8_thrown l D cy ad m2 H.size hL) zv_L_83 rfl rfl rfl ⟨Nat.le_of_ble_eq_true rfl, Nat.le_of_ble_eq_true rfl⟩ rfl (Nat.le_of_ble_eq_true rfl) dL_law_226 ⟨(show ((300 + 20 * n) + 1) + 0 + 0 ≤ 601024 by omega), (show ((1500 + 220 * n) + 6) + 0 + 0 ≤ 7293034 by omega)⟩) (fun r3 m3 H locs hr3 hw => ?_)
  obtain ⟨e5, e6⟩ := hr3
  rw [e6] at hw
  rw [h12] at e5
  refine lv_iload hx hb dL_law_229 (lv_at hl 1 rfl) ?_
  refine lv_icmp_eq (tgt := 236) hx hb dL_law_231 (by decide) (fun _ => ?_) (fun z => absurd e5 z)
  refine lv_iload hx hb dL_law_236 (lv_at hl 1 rfl) ?_
  have fin : W p l e room_1 (s.setDrawn d0) mi #[Value.ref b] below meth c H locs ((300 + 20 * n) + 1 + 0 + 0) (1500 + 220 * n + 6 + 0 + 0) (lw_Z below #[Value.ref b] s) (F0 mi 253 ls []) := by
    refine lv_goto (tgt := 1351) hx hb dL_law_253 (by decide) ?_
    refine W.widen (k := 300 + 20 * (n + 1)) (n := 1500 + 220 * (n + 1)) (by omega) (by omega) ?_
    exact K d0 hd0 H locs ls m2 bc1 sc1 bu1 hq1 f1 cn1 R1 hw (lv_sub hl [2, 3, 4, 5, 6] rfl)
  refine lv_if_ne (tgt := 253) hx hb dL_law_238 (by decide) (fun _ => fin) (fun z0 => ?_)
  have h14 := h14 z0
  refine lv_aload_n hx hb dL_law_241 rfl (lv_at hl 3 rfl) ?_
  refine lv_iconst (v := 0) hx hb dL_law_242 (by decide) ?_
  refine zlald C hw (zn14 hL) dL_law_243 ?_
  refine lv_iload hx hb dL_law_244 (lv_at hl 0 rfl) ?_
  refine lv_i2l hx hb dL_law_246 rfl ?_
  refine W.lcmp hx hb dL_law_247 ?_
  refine lv_if_eq (tgt := 253) hx hb dL_law_248 (by decide) (fun _ => fin) (fun z => absurd (by rw [h14]; exact lw_cmp0) z)
set_option maxHeartbeats 4000000 in
set_option maxRecDepth 100000 in
theorem lw_case_addBox {p : Program} {l : Launch} {e : Env} {s : State} {mi : MethodId} {below : List Frame} {meth : Method} {c : Code} {b LX : Nat} {xs : Nat → Int32} {D : va_G} {cy : Nat → ClassId} {ad : ZN → Nat} {L : List ZN} (F : lwF l p s mi meth c b LX xs D cy ad L) {n : Nat} (hn : 4 * n + 4 ≤ LX) (K : lwK p l e s mi below meth c b D cy ad L (n + 1) n 1351) : lwK p l e s mi below meth c b D cy ad L n n 256 := by
  intro d0 hd0 H locs ls m bc sc bu hq f cn R hw hl
  obtain ⟨hst, C, E, N, hX, hbl, hbA, hAs, hr, hlocks, hml, hL, hn0, hn1, hLX⟩ := id F
  have C := zX_d0 d0 C
  have E : zE (zA ad L (s.setDrawn d0).heap.size) (s.setDrawn d0) (s.setDrawn d0).heap := zE_same (u := s) (U := s.setDrawn d0) rfl E
  have N : zNcs (s.setDrawn d0) := zNcs_to (u := s) (U := s.setDrawn d0) (Vm.Alike.refl _) N
  have hw : zH D cy ad L (s.setDrawn d0).heap H locs m := hw
  have hx := C.1
  have hb := C.2.1
  have T := tc_addBox R (show n < 512 by omega)
  unfold tDone at T
  refine lv_aload_n hx hb dL_law_256 rfl (lv_at hl 3 rfl) ?_
  refine lv_aload_n hx hb dL_law_257 rfl (lv_at hl 1 rfl) ?_
  refine zafter_iC C hw (zrunSW (As := [.ref (ad (0, 0, 0)), .ref (ad (14, 0, 0))]) (rest := []) C E N hml hl.1 hw (c_L_addBox l hst D cy ad m H.size hL R.2.1.1 R.2.1.2.2.1) zv_L_90 rfl rfl rfl ⟨Nat.le_of_ble_eq_true rfl, Nat.le_of_ble_eq_true rfl⟩ rfl (Nat.le_of_ble_eq_true rfl) dL_law_258 ⟨(show (300 + 20 * n) + 1 ≤ 601024 by omega), (show (1500 + 220 * n) + 6 ≤ 7293034 by omega)⟩) (fun r1 m1 H locs hr1 hw => ?_)
  obtain ⟨e1, e2⟩ := hr1
  rw [← e2, ← e1] at T
  obtain ⟨G1, h12, h14, R1⟩ := T
  have h12 : (q8_addBox m1 bc).2 (12, 0, 0) 0 = r1 := h12
  have h14 : r1 = 0 → (q8_addBox m1 bc).2 (14, 0, 0) 0 = (q8_addBox m1 bc).1 := h14
  have R1 : ∃ bc1 sc1 bu1 hq1 f1 cn1, RQ (q8_addBox m1 bc).2 (q8_addBox m1 bc).2 (n + 1) bc1 sc1 bu1 hq1 f1 cn1 := R1
  refine lv_istore (lv' := (5, .int r1) :: lwl b ad (nI (4 * n))) hx hb dL_law_261 hl (by decide) rfl (fun ls hl => ?_)
  refine lv_aload_n hx hb dL_law_263 rfl (lv_at hl 3 rfl) ?_
  refine zafter_iC C hw (zrunV (As := []) (rest := []) C hml hl.1 hw (zn12 hL) rfl rfl (c_X8_addBox l D cy ad m1 H.size hL G1) zv_L_93 rfl rfl rfl ⟨Nat.le_of_ble_eq_true rfl, Nat.le_of_ble_eq_true rfl⟩ rfl (Nat.le_of_ble_eq_true rfl) dL_law_264 ⟨(show (300 + 20 * n) + 1 + 0 ≤ 601024 by omega), (show (1500 + 220 * n) + 6 + 0 ≤ 7293034 by omega)⟩) (fun r2 m2 H locs hr2 hw => ?_)
  obtain ⟨e3, e4⟩ := hr2
  rw [← e4] at h12 R1
  rw [← e4, ← e3] at h14
  obtain ⟨bc1, sc1, bu1, hq1, f1, cn1, R1⟩ := R1
  refine lv_istore (lv' := (6, .int r2) :: (5, .int r1) :: lwl b ad (nI (4 * n))) hx hb dL_law_267 hl (by decide) rfl (fun ls hl => ?_)
  refine lv_aload_n hx hb dL_law_269 rfl (lv_at hl 4 rfl) ?_
  refine zafter_iC C hw (zrunV (As := []) (rest := []) C hml hl.1 hw (zn12 hL) rfl rfl (c_X8_thrown l D cy ad m2 H.size hL) zv_L_83 rfl rfl rfl ⟨Nat.le_of_ble_eq_true rfl, Nat.le_of_ble_eq_true rfl⟩ rfl (Nat.le_of_ble_eq_true rfl) dL_law_270 ⟨(show ((300 + 20 * n) + 1) + 0 + 0 ≤ 601024 by omega), (show ((1500 + 220 * n) + 6) + 0 + 0 ≤ 7293034 by omega)⟩) (fun r3 m3 H locs hr3 hw => ?_)
  obtain ⟨e5, e6⟩ := hr3
  rw [e6] at hw
  rw [h12] at e5
  refine lv_iload hx hb dL_law_273 (lv_at hl 1 rfl) ?_
  refine lv_icmp_eq (tgt := 280) hx hb dL_law_275 (by decide) (fun _ => ?_) (fun z => absurd e5 z)
  refine lv_iload hx hb dL_law_280 (lv_at hl 1 rfl) ?_
  have fin : W p l e room_1 (s.setDrawn d0) mi #[Value.ref b] below meth c H locs ((300 + 20 * n) + 1 + 0 + 0) (1500 + 220 * n + 6 + 0 + 0) (lw_Z below #[Value.ref b] s) (F0 mi 297 ls []) := by
    refine lv_goto (tgt := 1351) hx hb dL_law_297 (by decide) ?_
    refine W.widen (k := 300 + 20 * (n + 1)) (n := 1500 + 220 * (n + 1)) (by omega) (by omega) ?_
    exact K d0 hd0 H locs ls m2 bc1 sc1 bu1 hq1 f1 cn1 R1 hw (lv_sub hl [2, 3, 4, 5, 6] rfl)
  refine lv_if_ne (tgt := 297) hx hb dL_law_282 (by decide) (fun _ => fin) (fun z0 => ?_)
  have h14 := h14 z0
  refine lv_aload_n hx hb dL_law_285 rfl (lv_at hl 3 rfl) ?_
  refine lv_iconst (v := 0) hx hb dL_law_286 (by decide) ?_
  refine zlald C hw (zn14 hL) dL_law_287 ?_
  refine lv_iload hx hb dL_law_288 (lv_at hl 0 rfl) ?_
  refine lv_i2l hx hb dL_law_290 rfl ?_
  refine W.lcmp hx hb dL_law_291 ?_
  refine lv_if_eq (tgt := 297) hx hb dL_law_292 (by decide) (fun _ => fin) (fun z => absurd (by rw [h14]; exact lw_cmp0) z)
set_option maxHeartbeats 4000000 in
set_option maxRecDepth 100000 in
theorem lw_case_hang {p : Program} {l : Launch} {e : Env} {s : State} {mi : MethodId} {below : List Frame} {meth : Method} {c : Code} {b LX : Nat} {xs : Nat → Int32} {D : va_G} {cy : Nat → ClassId} {ad : ZN → Nat} {L : List ZN} (F : lwF l p s mi meth c b LX xs D cy ad L) {n : Nat} (hn : 4 * n + 4 ≤ LX) (K : lwK p l e s mi below meth c b D cy ad L (n + 1) n 1351) : lwK p l e s mi below meth c b D cy ad L n n 300 := by
  intro d0 hd0 H locs ls m bc sc bu hq f cn R hw hl
  obtain ⟨hst, C, E, N, hX, hbl, hbA, hAs, hr, hlocks, hml, hL, hn0, hn1, hLX⟩ := id F
  have C := zX_d0 d0 C
  have E : zE (zA ad L (s.setDrawn d0).heap.size) (s.setDrawn d0) (s.setDrawn d0).heap := zE_same (u := s) (U := s.setDrawn d0) rfl E
  have N : zNcs (s.setDrawn d0) := zNcs_to (u := s) (U := s.setDrawn d0) (Vm.Alike.refl _) N
  have hw : zH D cy ad L (s.setDrawn d0).heap H locs m := hw
  have hx := C.1
  have hb := C.2.1
  have T := tc_hang R (show n < 512 by omega) (xs (4 * n + 1)) (xs (4 * n + 2)) (xs (4 * n + 3))
  unfold tDone at T
  refine lv_aload_n hx hb dL_law_300 rfl (lv_at hl 3 rfl) ?_
  refine lv_aload_n hx hb dL_law_301 rfl (lv_at hl 4 rfl) ?_
  refine lv_iload hx hb dL_law_302 (lv_at hl 0 rfl) ?_
  refine lv_iconst (v := 1) hx hb dL_law_304 (by decide) ?_
  refine lv_iadd hx hb dL_law_305 ?_
  refine lw_sld F hw (k := 4 * n + 1) (zadd (b := 1) rfl rfl) (by omega) dL_law_306 ?_
  refine lv_aload_n hx hb dL_law_307 rfl (lv_at hl 4 rfl) ?_
  refine lv_iload hx hb dL_law_308 (lv_at hl 0 rfl) ?_
  refine lv_iconst (v := 2) hx hb dL_law_310 (by decide) ?_
  refine lv_iadd hx hb dL_law_311 ?_
  refine lw_sld F hw (k := 4 * n + 2) (zadd (b := 2) rfl rfl) (by omega) dL_law_312 ?_
  refine lv_aload_n hx hb dL_law_313 rfl (lv_at hl 4 rfl) ?_
  refine lv_iload hx hb dL_law_314 (lv_at hl 0 rfl) ?_
  refine lv_iconst (v := 3) hx hb dL_law_316 (by decide) ?_
  refine lv_iadd hx hb dL_law_317 ?_
  refine lw_sld F hw (k := 4 * n + 3) (zadd (b := 3) rfl rfl) (by omega) dL_law_318 ?_
  refine lv_aload_n hx hb dL_law_319 rfl (lv_at hl 1 rfl) ?_
  refine zafter_iC C hw (zrunSW (As := [.ref (ad (0, 0, 0)), .int (xs (4 * n + 1)), .int (xs (4 * n + 2)), .int (xs (4 * n + 3)), .ref (ad (14, 0, 0))]) (rest := []) C E N hml hl.1 hw (c_L_hang l hst D cy ad m H.size hL (RQ_gW R) (xs (4 * n + 1)) (xs (4 * n + 2)) (xs (4 * n + 3))) zv_L_94 rfl rfl rfl ⟨Nat.le_of_ble_eq_true rfl, Nat.le_of_ble_eq_true rfl⟩ rfl (Nat.le_of_ble_eq_true rfl) dL_law_320 ⟨(show (300 + 20 * n) + 2 ≤ 601024 by omega), (show (1500 + 220 * n) + 12 ≤ 7293034 by omega)⟩) (fun r1 m1 H locs hr1 hw => ?_)
  obtain ⟨e1, e2⟩ := hr1
  rw [← e2, ← e1] at T
  obtain ⟨G1, h12, h14, R1⟩ := T
  have h12 : (q8_hang m1 sc (xs (4 * n + 1)) (xs (4 * n + 2)) (xs (4 * n + 3))).2 (12, 0, 0) 0 = r1 := h12
  have h14 : r1 = 0 → (q8_hang m1 sc (xs (4 * n + 1)) (xs (4 * n + 2)) (xs (4 * n + 3))).2 (14, 0, 0) 0 = (q8_hang m1 sc (xs (4 * n + 1)) (xs (4 * n + 2)) (xs (4 * n + 3))).1 := h14
  have R1 : ∃ bc1 sc1 bu1 hq1 f1 cn1, RQ (q8_hang m1 sc (xs (4 * n + 1)) (xs (4 * n + 2)) (xs (4 * n + 3))).2 (q8_hang m1 sc (xs (4 * n + 1)) (xs (4 * n + 2)) (xs (4 * n + 3))).2 (n + 1) bc1 sc1 bu1 hq1 f1 cn1 := R1
  refine lv_istore (lv' := (5, .int r1) :: lwl b ad (nI (4 * n))) hx hb dL_law_323 hl (by decide) rfl (fun ls hl => ?_)
  refine lv_aload_n hx hb dL_law_325 rfl (lv_at hl 3 rfl) ?_
  refine lv_aload_n hx hb dL_law_326 rfl (lv_at hl 5 rfl) ?_
  refine lv_iload hx hb dL_law_327 (lv_at hl 1 rfl) ?_
  refine lv_iconst (v := 1) hx hb dL_law_329 (by decide) ?_
  refine lv_iadd hx hb dL_law_330 ?_
  refine lw_sld F hw (k := 4 * n + 1) (zadd (b := 1) rfl rfl) (by omega) dL_law_331 ?_
  refine lv_aload_n hx hb dL_law_332 rfl (lv_at hl 5 rfl) ?_
  refine lv_iload hx hb dL_law_333 (lv_at hl 1 rfl) ?_
  refine lv_iconst (v := 2) hx hb dL_law_335 (by decide) ?_
  refine lv_iadd hx hb dL_law_336 ?_
  refine lw_sld F hw (k := 4 * n + 2) (zadd (b := 2) rfl rfl) (by omega) dL_law_337 ?_
  refine lv_aload_n hx hb dL_law_338 rfl (lv_at hl 5 rfl) ?_
  refine lv_iload hx hb dL_law_339 (lv_at hl 1 rfl) ?_
  refine lv_iconst (v := 3) hx hb dL_law_341 (by decide) ?_
  refine lv_iadd hx hb dL_law_342 ?_
  refine lw_sld F hw (k := 4 * n + 3) (zadd (b := 3) rfl rfl) (by omega) dL_law_343 ?_
  refine zafter_iC C hw (zrunV (As := [.int (xs (4 * n + 1)), .int (xs (4 * n + 2)), .int (xs (4 * n + 3))]) (rest := []) C hml hl.1 hw (zn12 hL) rfl rfl (c_X8_hang l D cy ad m1 H.size hL G1 (xs (4 * n + 1)) (xs (4 * n + 2)) (xs (4 * n + 3))) zv_L_97 rfl rfl rfl ⟨Nat.le_of_ble_eq_true rfl, Nat.le_of_ble_eq_true rfl⟩ rfl (Nat.le_of_ble_eq_true rfl) dL_law_344 ⟨(show (300 + 20 * n) + 2 + 0 ≤ 601024 by omega), (show (1500 + 220 * n) + 12 + 0 ≤ 7293034 by omega)⟩) (fun r2 m2 H locs hr2 hw => ?_)
  obtain ⟨e3, e4⟩ := hr2
  rw [← e4] at h12 R1
  rw [← e4, ← e3] at h14
  obtain ⟨bc1, sc1, bu1, hq1, f1, cn1, R1⟩ := R1
  refine lv_istore (lv' := (6, .int r2) :: (5, .int r1) :: lwl b ad (nI (4 * n))) hx hb dL_law_347 hl (by decide) rfl (fun ls hl => ?_)
  refine lv_aload_n hx hb dL_law_349 rfl (lv_at hl 4 rfl) ?_
  refine zafter_iC C hw (zrunV (As := []) (rest := []) C hml hl.1 hw (zn12 hL) rfl rfl (c_X8_thrown l D cy ad m2 H.size hL) zv_L_83 rfl rfl rfl ⟨Nat.le_of_ble_eq_true rfl, Nat.le_of_ble_eq_true rfl⟩ rfl (Nat.le_of_ble_eq_true rfl) dL_law_350 ⟨(show ((300 + 20 * n) + 2) + 0 + 0 ≤ 601024 by omega), (show ((1500 + 220 * n) + 12) + 0 + 0 ≤ 7293034 by omega)⟩) (fun r3 m3 H locs hr3 hw => ?_)
  obtain ⟨e5, e6⟩ := hr3
  rw [e6] at hw
  rw [h12] at e5
  refine lv_iload hx hb dL_law_353 (lv_at hl 1 rfl) ?_
  refine lv_icmp_eq (tgt := 360) hx hb dL_law_355 (by decide) (fun _ => ?_) (fun z => absurd e5 z)
  refine lv_iload hx hb dL_law_360 (lv_at hl 1 rfl) ?_
  have fin : W p l e room_1 (s.setDrawn d0) mi #[Value.ref b] below meth c H locs ((300 + 20 * n) + 2 + 0 + 0) (1500 + 220 * n + 12 + 0 + 0) (lw_Z below #[Value.ref b] s) (F0 mi 377 ls []) := by
    refine lv_goto (tgt := 1351) hx hb dL_law_377 (by decide) ?_
    refine W.widen (k := 300 + 20 * (n + 1)) (n := 1500 + 220 * (n + 1)) (by omega) (by omega) ?_
    exact K d0 hd0 H locs ls m2 bc1 sc1 bu1 hq1 f1 cn1 R1 hw (lv_sub hl [2, 3, 4, 5, 6] rfl)
  refine lv_if_ne (tgt := 377) hx hb dL_law_362 (by decide) (fun _ => fin) (fun z0 => ?_)
  have h14 := h14 z0
  refine lv_aload_n hx hb dL_law_365 rfl (lv_at hl 3 rfl) ?_
  refine lv_iconst (v := 0) hx hb dL_law_366 (by decide) ?_
  refine zlald C hw (zn14 hL) dL_law_367 ?_
  refine lv_iload hx hb dL_law_368 (lv_at hl 0 rfl) ?_
  refine lv_i2l hx hb dL_law_370 rfl ?_
  refine W.lcmp hx hb dL_law_371 ?_
  refine lv_if_eq (tgt := 377) hx hb dL_law_372 (by decide) (fun _ => fin) (fun z => absurd (by rw [h14]; exact lw_cmp0) z)
set_option maxHeartbeats 4000000 in
set_option maxRecDepth 100000 in
theorem lw_case_shoe {p : Program} {l : Launch} {e : Env} {s : State} {mi : MethodId} {below : List Frame} {meth : Method} {c : Code} {b LX : Nat} {xs : Nat → Int32} {D : va_G} {cy : Nat → ClassId} {ad : ZN → Nat} {L : List ZN} (F : lwF l p s mi meth c b LX xs D cy ad L) {n : Nat} (hn : 4 * n + 4 ≤ LX) (K : lwK p l e s mi below meth c b D cy ad L (n + 1) n 1351) : lwK p l e s mi below meth c b D cy ad L n n 380 := by
  intro d0 hd0 H locs ls m bc sc bu hq f cn R hw hl
  obtain ⟨hst, C, E, N, hX, hbl, hbA, hAs, hr, hlocks, hml, hL, hn0, hn1, hLX⟩ := id F
  have C := zX_d0 d0 C
  have E : zE (zA ad L (s.setDrawn d0).heap.size) (s.setDrawn d0) (s.setDrawn d0).heap := zE_same (u := s) (U := s.setDrawn d0) rfl E
  have N : zNcs (s.setDrawn d0) := zNcs_to (u := s) (U := s.setDrawn d0) (Vm.Alike.refl _) N
  have hw : zH D cy ad L (s.setDrawn d0).heap H locs m := hw
  have hx := C.1
  have hb := C.2.1
  have T := tc_shoe R (show n < 512 by omega) (xs (4 * n + 1)) (xs (4 * n + 2))
  unfold tDone at T
  refine lv_aload_n hx hb dL_law_380 rfl (lv_at hl 3 rfl) ?_
  refine lv_aload_n hx hb dL_law_381 rfl (lv_at hl 4 rfl) ?_
  refine lv_iload hx hb dL_law_382 (lv_at hl 0 rfl) ?_
  refine lv_iconst (v := 1) hx hb dL_law_384 (by decide) ?_
  refine lv_iadd hx hb dL_law_385 ?_
  refine lw_sld F hw (k := 4 * n + 1) (zadd (b := 1) rfl rfl) (by omega) dL_law_386 ?_
  refine lv_aload_n hx hb dL_law_387 rfl (lv_at hl 4 rfl) ?_
  refine lv_iload hx hb dL_law_388 (lv_at hl 0 rfl) ?_
  refine lv_iconst (v := 2) hx hb dL_law_390 (by decide) ?_
  refine lv_iadd hx hb dL_law_391 ?_
  refine lw_sld F hw (k := 4 * n + 2) (zadd (b := 2) rfl rfl) (by omega) dL_law_392 ?_
  refine lv_aload_n hx hb dL_law_393 rfl (lv_at hl 1 rfl) ?_
  refine zafter_iC C hw (zrunSW (As := [.ref (ad (0, 0, 0)), .int (xs (4 * n + 1)), .int (xs (4 * n + 2)), .ref (ad (14, 0, 0))]) (rest := []) C E N hml hl.1 hw (c_L_shoe l hst D cy ad m H.size hL (RQ_gW R) (xs (4 * n + 1)) (xs (4 * n + 2))) zv_L_98 rfl rfl rfl ⟨Nat.le_of_ble_eq_true rfl, Nat.le_of_ble_eq_true rfl⟩ rfl (Nat.le_of_ble_eq_true rfl) dL_law_394 ⟨(show (300 + 20 * n) + 2 ≤ 601024 by omega), (show (1500 + 220 * n) + 12 ≤ 7293034 by omega)⟩) (fun r1 m1 H locs hr1 hw => ?_)
  obtain ⟨e1, e2⟩ := hr1
  rw [← e2, ← e1] at T
  obtain ⟨G1, h12, h14, R1⟩ := T
  have h12 : (q8_shoe m1 sc (xs (4 * n + 1)) (xs (4 * n + 2))).2 (12, 0, 0) 0 = r1 := h12
  have h14 : r1 = 0 → (q8_shoe m1 sc (xs (4 * n + 1)) (xs (4 * n + 2))).2 (14, 0, 0) 0 = (q8_shoe m1 sc (xs (4 * n + 1)) (xs (4 * n + 2))).1 := h14
  have R1 : ∃ bc1 sc1 bu1 hq1 f1 cn1, RQ (q8_shoe m1 sc (xs (4 * n + 1)) (xs (4 * n + 2))).2 (q8_shoe m1 sc (xs (4 * n + 1)) (xs (4 * n + 2))).2 (n + 1) bc1 sc1 bu1 hq1 f1 cn1 := R1
  refine lv_istore (lv' := (5, .int r1) :: lwl b ad (nI (4 * n))) hx hb dL_law_397 hl (by decide) rfl (fun ls hl => ?_)
  refine lv_aload_n hx hb dL_law_399 rfl (lv_at hl 3 rfl) ?_
  refine lv_aload_n hx hb dL_law_400 rfl (lv_at hl 5 rfl) ?_
  refine lv_iload hx hb dL_law_401 (lv_at hl 1 rfl) ?_
  refine lv_iconst (v := 1) hx hb dL_law_403 (by decide) ?_
  refine lv_iadd hx hb dL_law_404 ?_
  refine lw_sld F hw (k := 4 * n + 1) (zadd (b := 1) rfl rfl) (by omega) dL_law_405 ?_
  refine lv_aload_n hx hb dL_law_406 rfl (lv_at hl 5 rfl) ?_
  refine lv_iload hx hb dL_law_407 (lv_at hl 1 rfl) ?_
  refine lv_iconst (v := 2) hx hb dL_law_409 (by decide) ?_
  refine lv_iadd hx hb dL_law_410 ?_
  refine lw_sld F hw (k := 4 * n + 2) (zadd (b := 2) rfl rfl) (by omega) dL_law_411 ?_
  refine zafter_iC C hw (zrunV (As := [.int (xs (4 * n + 1)), .int (xs (4 * n + 2))]) (rest := []) C hml hl.1 hw (zn12 hL) rfl rfl (c_X8_shoe l D cy ad m1 H.size hL G1 (xs (4 * n + 1)) (xs (4 * n + 2))) zv_L_100 rfl rfl rfl ⟨Nat.le_of_ble_eq_true rfl, Nat.le_of_ble_eq_true rfl⟩ rfl (Nat.le_of_ble_eq_true rfl) dL_law_412 ⟨(show (300 + 20 * n) + 2 + 0 ≤ 601024 by omega), (show (1500 + 220 * n) + 12 + 0 ≤ 7293034 by omega)⟩) (fun r2 m2 H locs hr2 hw => ?_)
  obtain ⟨e3, e4⟩ := hr2
  rw [← e4] at h12 R1
  rw [← e4, ← e3] at h14
  obtain ⟨bc1, sc1, bu1, hq1, f1, cn1, R1⟩ := R1
  refine lv_istore (lv' := (6, .int r2) :: (5, .int r1) :: lwl b ad (nI (4 * n))) hx hb dL_law_415 hl (by decide) rfl (fun ls hl => ?_)
  refine lv_aload_n hx hb dL_law_417 rfl (lv_at hl 4 rfl) ?_
  refine zafter_iC C hw (zrunV (As := []) (rest := []) C hml hl.1 hw (zn12 hL) rfl rfl (c_X8_thrown l D cy ad m2 H.size hL) zv_L_83 rfl rfl rfl ⟨Nat.le_of_ble_eq_true rfl, Nat.le_of_ble_eq_true rfl⟩ rfl (Nat.le_of_ble_eq_true rfl) dL_law_418 ⟨(show ((300 + 20 * n) + 2) + 0 + 0 ≤ 601024 by omega), (show ((1500 + 220 * n) + 12) + 0 + 0 ≤ 7293034 by omega)⟩) (fun r3 m3 H locs hr3 hw => ?_)
  obtain ⟨e5, e6⟩ := hr3
  rw [e6] at hw
  rw [h12] at e5
  refine lv_iload hx hb dL_law_421 (lv_at hl 1 rfl) ?_
  refine lv_icmp_eq (tgt := 428) hx hb dL_law_423 (by decide) (fun _ => ?_) (fun z => absurd e5 z)
  refine lv_iload hx hb dL_law_428 (lv_at hl 1 rfl) ?_
  have fin : W p l e room_1 (s.setDrawn d0) mi #[Value.ref b] below meth c H locs ((300 + 20 * n) + 2 + 0 + 0) (1500 + 220 * n + 12 + 0 + 0) (lw_Z below #[Value.ref b] s) (F0 mi 445 ls []) := by
    refine lv_goto (tgt := 1351) hx hb dL_law_445 (by decide) ?_
    refine W.widen (k := 300 + 20 * (n + 1)) (n := 1500 + 220 * (n + 1)) (by omega) (by omega) ?_
    exact K d0 hd0 H locs ls m2 bc1 sc1 bu1 hq1 f1 cn1 R1 hw (lv_sub hl [2, 3, 4, 5, 6] rfl)
  refine lv_if_ne (tgt := 445) hx hb dL_law_430 (by decide) (fun _ => fin) (fun z0 => ?_)
  have h14 := h14 z0
  refine lv_aload_n hx hb dL_law_433 rfl (lv_at hl 3 rfl) ?_
  refine lv_iconst (v := 0) hx hb dL_law_434 (by decide) ?_
  refine zlald C hw (zn14 hL) dL_law_435 ?_
  refine lv_iload hx hb dL_law_436 (lv_at hl 0 rfl) ?_
  refine lv_i2l hx hb dL_law_438 rfl ?_
  refine W.lcmp hx hb dL_law_439 ?_
  refine lv_if_eq (tgt := 445) hx hb dL_law_440 (by decide) (fun _ => fin) (fun z => absurd (by rw [h14]; exact lw_cmp0) z)
set_option maxHeartbeats 4000000 in
set_option maxRecDepth 100000 in
theorem lw_case_setBox {p : Program} {l : Launch} {e : Env} {s : State} {mi : MethodId} {below : List Frame} {meth : Method} {c : Code} {b LX : Nat} {xs : Nat → Int32} {D : va_G} {cy : Nat → ClassId} {ad : ZN → Nat} {L : List ZN} (F : lwF l p s mi meth c b LX xs D cy ad L) {n : Nat} (hn : 4 * n + 4 ≤ LX) (K : lwK p l e s mi below meth c b D cy ad L (n + 1) n 1351) : lwK p l e s mi below meth c b D cy ad L n n 448 := by
  intro d0 hd0 H locs ls m bc sc bu hq f cn R hw hl
  obtain ⟨hst, C, E, N, hX, hbl, hbA, hAs, hr, hlocks, hml, hL, hn0, hn1, hLX⟩ := id F
  have C := zX_d0 d0 C
  have E : zE (zA ad L (s.setDrawn d0).heap.size) (s.setDrawn d0) (s.setDrawn d0).heap := zE_same (u := s) (U := s.setDrawn d0) rfl E
  have N : zNcs (s.setDrawn d0) := zNcs_to (u := s) (U := s.setDrawn d0) (Vm.Alike.refl _) N
  have hw : zH D cy ad L (s.setDrawn d0).heap H locs m := hw
  have hx := C.1
  have hb := C.2.1
  have T := tc_setBox R (show n < 512 by omega) (xs (4 * n + 1)) (xs (4 * n + 2)) (xs (4 * n + 3))
  unfold tDone at T
  refine lv_aload_n hx hb dL_law_448 rfl (lv_at hl 3 rfl) ?_
  refine lv_aload_n hx hb dL_law_449 rfl (lv_at hl 4 rfl) ?_
  refine lv_iload hx hb dL_law_450 (lv_at hl 0 rfl) ?_
  refine lv_iconst (v := 1) hx hb dL_law_452 (by decide) ?_
  refine lv_iadd hx hb dL_law_453 ?_
  refine lw_sld F hw (k := 4 * n + 1) (zadd (b := 1) rfl rfl) (by omega) dL_law_454 ?_
  refine lv_aload_n hx hb dL_law_455 rfl (lv_at hl 4 rfl) ?_
  refine lv_iload hx hb dL_law_456 (lv_at hl 0 rfl) ?_
  refine lv_iconst (v := 2) hx hb dL_law_458 (by decide) ?_
  refine lv_iadd hx hb dL_law_459 ?_
  refine lw_sld F hw (k := 4 * n + 2) (zadd (b := 2) rfl rfl) (by omega) dL_law_460 ?_
  refine lv_aload_n hx hb dL_law_461 rfl (lv_at hl 4 rfl) ?_
  refine lv_iload hx hb dL_law_462 (lv_at hl 0 rfl) ?_
  refine lv_iconst (v := 3) hx hb dL_law_464 (by decide) ?_
  refine lv_iadd hx hb dL_law_465 ?_
  refine lw_sld F hw (k := 4 * n + 3) (zadd (b := 3) rfl rfl) (by omega) dL_law_466 ?_
  refine lv_aload_n hx hb dL_law_467 rfl (lv_at hl 1 rfl) ?_
  refine zafter_iC C hw (zrunSW (As := [.ref (ad (0, 0, 0)), .int (xs (4 * n + 1)), .int (xs (4 * n + 2)), .int (xs (4 * n + 3)), .ref (ad (14, 0, 0))]) (rest := []) C E N hml hl.1 hw (c_L_setBox l hst D cy ad m H.size hL (RQ_gW R) (xs (4 * n + 1)) (xs (4 * n + 2)) (xs (4 * n + 3))) zv_L_101 rfl rfl rfl ⟨Nat.le_of_ble_eq_true rfl, Nat.le_of_ble_eq_true rfl⟩ rfl (Nat.le_of_ble_eq_true rfl) dL_law_468 ⟨(show (300 + 20 * n) + 2 ≤ 601024 by omega), (show (1500 + 220 * n) + 12 ≤ 7293034 by omega)⟩) (fun r1 m1 H locs hr1 hw => ?_)
  obtain ⟨e1, e2⟩ := hr1
  rw [← e2, ← e1] at T
  obtain ⟨G1, h12, h14, R1⟩ := T
  have h12 : (q8_setBox m1 (xs (4 * n + 1)) (xs (4 * n + 2)) (xs (4 * n + 3))).2 (12, 0, 0) 0 = r1 := h12
  have h14 : r1 = 0 → (q8_setBox m1 (xs (4 * n + 1)) (xs (4 * n + 2)) (xs (4 * n + 3))).2 (14, 0, 0) 0 = (q8_setBox m1 (xs (4 * n + 1)) (xs (4 * n + 2)) (xs (4 * n + 3))).1 := h14
  have R1 : ∃ bc1 sc1 bu1 hq1 f1 cn1, RQ (q8_setBox m1 (xs (4 * n + 1)) (xs (4 * n + 2)) (xs (4 * n + 3))).2 (q8_setBox m1 (xs (4 * n + 1)) (xs (4 * n + 2)) (xs (4 * n + 3))).2 (n + 1) bc1 sc1 bu1 hq1 f1 cn1 := R1
  refine lv_istore (lv' := (5, .int r1) :: lwl b ad (nI (4 * n))) hx hb dL_law_471 hl (by decide) rfl (fun ls hl => ?_)
  refine lv_aload_n hx hb dL_law_473 rfl (lv_at hl 3 rfl) ?_
  refine lv_aload_n hx hb dL_law_474 rfl (lv_at hl 5 rfl) ?_
  refine lv_iload hx hb dL_law_475 (lv_at hl 1 rfl) ?_
  refine lv_iconst (v := 1) hx hb dL_law_477 (by decide) ?_
  refine lv_iadd hx hb dL_law_478 ?_
  refine lw_sld F hw (k := 4 * n + 1) (zadd (b := 1) rfl rfl) (by omega) dL_law_479 ?_
  refine lv_aload_n hx hb dL_law_480 rfl (lv_at hl 5 rfl) ?_
  refine lv_iload hx hb dL_law_481 (lv_at hl 1 rfl) ?_
  refine lv_iconst (v := 2) hx hb dL_law_483 (by decide) ?_
  refine lv_iadd hx hb dL_law_484 ?_
  refine lw_sld F hw (k := 4 * n + 2) (zadd (b := 2) rfl rfl) (by omega) dL_law_485 ?_
  refine lv_aload_n hx hb dL_law_486 rfl (lv_at hl 5 rfl) ?_
  refine lv_iload hx hb dL_law_487 (lv_at hl 1 rfl) ?_
  refine lv_iconst (v := 3) hx hb dL_law_489 (by decide) ?_
  refine lv_iadd hx hb dL_law_490 ?_
  refine lw_sld F hw (k := 4 * n + 3) (zadd (b := 3) rfl rfl) (by omega) dL_law_491 ?_
  refine zafter_iC C hw (zrunV (As := [.int (xs (4 * n + 1)), .int (xs (4 * n + 2)), .int (xs (4 * n + 3))]) (rest := []) C hml hl.1 hw (zn12 hL) rfl rfl (c_X8_setBox l D cy ad m1 H.size hL G1 (xs (4 * n + 1)) (xs (4 * n + 2)) (xs (4 * n + 3))) zv_L_103 rfl rfl rfl ⟨Nat.le_of_ble_eq_true rfl, Nat.le_of_ble_eq_true rfl⟩ rfl (Nat.le_of_ble_eq_true rfl) dL_law_492 ⟨(show (300 + 20 * n) + 2 + 0 ≤ 601024 by omega), (show (1500 + 220 * n) + 12 + 0 ≤ 7293034 by omega)⟩) (fun r2 m2 H locs hr2 hw => ?_)
  obtain ⟨e3, e4⟩ := hr2
  rw [← e4] at h12 R1
  rw [← e4, ← e3] at h14
  obtain ⟨bc1, sc1, bu1, hq1, f1, cn1, R1⟩ := R1
  refine lv_istore (lv' := (6, .int r2) :: (5, .int r1) :: lwl b ad (nI (4 * n))) hx hb dL_law_495 hl (by decide) rfl (fun ls hl => ?_)
  refine lv_aload_n hx hb dL_law_497 rfl (lv_at hl 4 rfl) ?_
  refine zafter_iC C hw (zrunV (As := []) (rest := []) C hml hl.1 hw (zn12 hL) rfl rfl (c_X8_thrown l D cy ad m2 H.size hL) zv_L_83 rfl rfl rfl ⟨Nat.le_of_ble_eq_true rfl, Nat.le_of_ble_eq_true rfl⟩ rfl (Nat.le_of_ble_eq_true rfl) dL_law_498 ⟨(show ((300 + 20 * n) + 2) + 0 + 0 ≤ 601024 by omega), (show ((1500 + 220 * n) + 12) + 0 + 0 ≤ 7293034 by omega)⟩) (fun r3 m3 H locs hr3 hw => ?_)
  obtain ⟨e5, e6⟩ := hr3
  rw [e6] at hw
  rw [h12] at e5
  refine lv_iload hx hb dL_law_501 (lv_at hl 1 rfl) ?_
  refine lv_icmp_eq (tgt := 508) hx hb dL_law_503 (by decide) (fun _ => ?_) (fun z => absurd e5 z)
  refine lv_iload hx hb dL_law_508 (lv_at hl 1 rfl) ?_
  have fin : W p l e room_1 (s.setDrawn d0) mi #[Value.ref b] below meth c H locs ((300 + 20 * n) + 2 + 0 + 0) (1500 + 220 * n + 12 + 0 + 0) (lw_Z below #[Value.ref b] s) (F0 mi 525 ls []) := by
    refine lv_goto (tgt := 1351) hx hb dL_law_525 (by decide) ?_
    refine W.widen (k := 300 + 20 * (n + 1)) (n := 1500 + 220 * (n + 1)) (by omega) (by omega) ?_
    exact K d0 hd0 H locs ls m2 bc1 sc1 bu1 hq1 f1 cn1 R1 hw (lv_sub hl [2, 3, 4, 5, 6] rfl)
  refine lv_if_ne (tgt := 525) hx hb dL_law_510 (by decide) (fun _ => fin) (fun z0 => ?_)
  have h14 := h14 z0
  refine lv_aload_n hx hb dL_law_513 rfl (lv_at hl 3 rfl) ?_
  refine lv_iconst (v := 0) hx hb dL_law_514 (by decide) ?_
  refine zlald C hw (zn14 hL) dL_law_515 ?_
  refine lv_iload hx hb dL_law_516 (lv_at hl 0 rfl) ?_
  refine lv_i2l hx hb dL_law_518 rfl ?_
  refine W.lcmp hx hb dL_law_519 ?_
  refine lv_if_eq (tgt := 525) hx hb dL_law_520 (by decide) (fun _ => fin) (fun z => absurd (by rw [h14]; exact lw_cmp0) z)
set_option maxHeartbeats 4000000 in
set_option maxRecDepth 100000 in
theorem lw_case_box {p : Program} {l : Launch} {e : Env} {s : State} {mi : MethodId} {below : List Frame} {meth : Method} {c : Code} {b LX : Nat} {xs : Nat → Int32} {D : va_G} {cy : Nat → ClassId} {ad : ZN → Nat} {L : List ZN} (F : lwF l p s mi meth c b LX xs D cy ad L) {n : Nat} (hn : 4 * n + 4 ≤ LX) (K : lwK p l e s mi below meth c b D cy ad L (n + 1) n 1351) : lwK p l e s mi below meth c b D cy ad L n n 528 := by
  intro d0 hd0 H locs ls m bc sc bu hq f cn R hw hl
  obtain ⟨hst, C, E, N, hX, hbl, hbA, hAs, hr, hlocks, hml, hL, hn0, hn1, hLX⟩ := id F
  have C := zX_d0 d0 C
  have E : zE (zA ad L (s.setDrawn d0).heap.size) (s.setDrawn d0) (s.setDrawn d0).heap := zE_same (u := s) (U := s.setDrawn d0) rfl E
  have N : zNcs (s.setDrawn d0) := zNcs_to (u := s) (U := s.setDrawn d0) (Vm.Alike.refl _) N
  have hw : zH D cy ad L (s.setDrawn d0).heap H locs m := hw
  have hx := C.1
  have hb := C.2.1
  have T := tc_box R (show n < 512 by omega) (xs (4 * n + 1)) (xs (4 * n + 2))
  unfold tDone at T
  refine lv_aload_n hx hb dL_law_528 rfl (lv_at hl 3 rfl) ?_
  refine lv_aload_n hx hb dL_law_529 rfl (lv_at hl 4 rfl) ?_
  refine lv_iload hx hb dL_law_530 (lv_at hl 0 rfl) ?_
  refine lv_iconst (v := 1) hx hb dL_law_532 (by decide) ?_
  refine lv_iadd hx hb dL_law_533 ?_
  refine lw_sld F hw (k := 4 * n + 1) (zadd (b := 1) rfl rfl) (by omega) dL_law_534 ?_
  refine lv_aload_n hx hb dL_law_535 rfl (lv_at hl 4 rfl) ?_
  refine lv_iload hx hb dL_law_536 (lv_at hl 0 rfl) ?_
  refine lv_iconst (v := 2) hx hb dL_law_538 (by decide) ?_
  refine lv_iadd hx hb dL_law_539 ?_
  refine lw_sld F hw (k := 4 * n + 2) (zadd (b := 2) rfl rfl) (by omega) dL_law_540 ?_
  refine lv_aload_n hx hb dL_law_541 rfl (lv_at hl 1 rfl) ?_
  refine zafter_iC C hw (zrunSW (As := [.ref (ad (0, 0, 0)), .int (xs (4 * n + 1)), .int (xs (4 * n + 2)), .ref (ad (14, 0, 0))]) (rest := []) C E N hml hl.1 hw (c_L_box l hst D cy ad m H.size hL (RQ_gW R) (xs (4 * n + 1)) (xs (4 * n + 2))) zv_L_104 rfl rfl rfl ⟨Nat.le_of_ble_eq_true rfl, Nat.le_of_ble_eq_true rfl⟩ rfl (Nat.le_of_ble_eq_true rfl) dL_law_542 ⟨(show (300 + 20 * n) + 2 ≤ 601024 by omega), (show (1500 + 220 * n) + 12 ≤ 7293034 by omega)⟩) (fun r1 m1 H locs hr1 hw => ?_)
  obtain ⟨e1, e2⟩ := hr1
  rw [← e2, ← e1] at T
  obtain ⟨G1, h12, h14, R1⟩ := T
  have h12 : (q8_box m1 sc (xs (4 * n + 1)) (xs (4 * n + 2))).2 (12, 0, 0) 0 = r1 := h12
  have h14 : r1 = 0 → (q8_box m1 sc (xs (4 * n + 1)) (xs (4 * n + 2))).2 (14, 0, 0) 0 = (q8_box m1 sc (xs (4 * n + 1)) (xs (4 * n + 2))).1 := h14
  have R1 : ∃ bc1 sc1 bu1 hq1 f1 cn1, RQ (q8_box m1 sc (xs (4 * n + 1)) (xs (4 * n + 2))).2 (q8_box m1 sc (xs (4 * n + 1)) (xs (4 * n + 2))).2 (n + 1) bc1 sc1 bu1 hq1 f1 cn1 := R1
  refine lv_istore (lv' := (5, .int r1) :: lwl b ad (nI (4 * n))) hx hb dL_law_545 hl (by decide) rfl (fun ls hl => ?_)
  refine lv_aload_n hx hb dL_law_547 rfl (lv_at hl 3 rfl) ?_
  refine lv_aload_n hx hb dL_law_548 rfl (lv_at hl 5 rfl) ?_
  refine lv_iload hx hb dL_law_549 (lv_at hl 1 rfl) ?_
  refine lv_iconst (v := 1) hx hb dL_law_551 (by decide) ?_
  refine lv_iadd hx hb dL_law_552 ?_
  refine lw_sld F hw (k := 4 * n + 1) (zadd (b := 1) rfl rfl) (by omega) dL_law_553 ?_
  refine lv_aload_n hx hb dL_law_554 rfl (lv_at hl 5 rfl) ?_
  refine lv_iload hx hb dL_law_555 (lv_at hl 1 rfl) ?_
  refine lv_iconst (v := 2) hx hb dL_law_557 (by decide) ?_
  refine lv_iadd hx hb dL_law_558 ?_
  refine lw_sld F hw (k := 4 * n + 2) (zadd (b := 2) rfl rfl) (by omega) dL_law_559 ?_
  refine zafter_iC C hw (zrunV (As := [.int (xs (4 * n + 1)), .int (xs (4 * n + 2))]) (rest := []) C hml hl.1 hw (zn12 hL) rfl rfl (c_X8_box l D cy ad m1 H.size hL G1 (xs (4 * n + 1)) (xs (4 * n + 2))) zv_L_106 rfl rfl rfl ⟨Nat.le_of_ble_eq_true rfl, Nat.le_of_ble_eq_true rfl⟩ rfl (Nat.le_of_ble_eq_true rfl) dL_law_560 ⟨(show (300 + 20 * n) + 2 + 0 ≤ 601024 by omega), (show (1500 + 220 * n) + 12 + 0 ≤ 7293034 by omega)⟩) (fun r2 m2 H locs hr2 hw => ?_)
  obtain ⟨e3, e4⟩ := hr2
  rw [← e4] at h12 R1
  rw [← e4, ← e3] at h14
  obtain ⟨bc1, sc1, bu1, hq1, f1, cn1, R1⟩ := R1
  refine lv_istore (lv' := (6, .int r2) :: (5, .int r1) :: lwl b ad (nI (4 * n))) hx hb dL_law_563 hl (by decide) rfl (fun ls hl => ?_)
  refine lv_aload_n hx hb dL_law_565 rfl (lv_at hl 4 rfl) ?_
  refine zafter_iC C hw (zrunV (As := []) (rest := []) C hml hl.1 hw (zn12 hL) rfl rfl (c_X8_thrown l D cy ad m2 H.size hL) zv_L_83 rfl rfl rfl ⟨Nat.le_of_ble_eq_true rfl, Nat.le_of_ble_eq_true rfl⟩ rfl (Nat.le_of_ble_eq_true rfl) dL_law_566 ⟨(show ((300 + 20 * n) + 2) + 0 + 0 ≤ 601024 by omega), (show ((1500 + 220 * n) + 12) + 0 + 0 ≤ 7293034 by omega)⟩) (fun r3 m3 H locs hr3 hw => ?_)
  obtain ⟨e5, e6⟩ := hr3
  rw [e6] at hw
  rw [h12] at e5
  refine lv_iload hx hb dL_law_569 (lv_at hl 1 rfl) ?_
  refine lv_icmp_eq (tgt := 576) hx hb dL_law_571 (by decide) (fun _ => ?_) (fun z => absurd e5 z)
  refine lv_iload hx hb dL_law_576 (lv_at hl 1 rfl) ?_
  have fin : W p l e room_1 (s.setDrawn d0) mi #[Value.ref b] below meth c H locs ((300 + 20 * n) + 2 + 0 + 0) (1500 + 220 * n + 12 + 0 + 0) (lw_Z below #[Value.ref b] s) (F0 mi 593 ls []) := by
    refine lv_goto (tgt := 1351) hx hb dL_law_593 (by decide) ?_
    refine W.widen (k := 300 + 20 * (n + 1)) (n := 1500 + 220 * (n + 1)) (by omega) (by omega) ?_
    exact K d0 hd0 H locs ls m2 bc1 sc1 bu1 hq1 f1 cn1 R1 hw (lv_sub hl [2, 3, 4, 5, 6] rfl)
  refine lv_if_ne (tgt := 593) hx hb dL_law_578 (by decide) (fun _ => fin) (fun z0 => ?_)
  have h14 := h14 z0
  refine lv_aload_n hx hb dL_law_581 rfl (lv_at hl 3 rfl) ?_
  refine lv_iconst (v := 0) hx hb dL_law_582 (by decide) ?_
  refine zlald C hw (zn14 hL) dL_law_583 ?_
  refine lv_iload hx hb dL_law_584 (lv_at hl 0 rfl) ?_
  refine lv_i2l hx hb dL_law_586 rfl ?_
  refine W.lcmp hx hb dL_law_587 ?_
  refine lv_if_eq (tgt := 593) hx hb dL_law_588 (by decide) (fun _ => fin) (fun z => absurd (by rw [h14]; exact lw_cmp0) z)
set_option maxHeartbeats 4000000 in
set_option maxRecDepth 100000 in
theorem lw_case_bring {p : Program} {l : Launch} {e : Env} {s : State} {mi : MethodId} {below : List Frame} {meth : Method} {c : Code} {b LX : Nat} {xs : Nat → Int32} {D : va_G} {cy : Nat → ClassId} {ad : ZN → Nat} {L : List ZN} (F : lwF l p s mi meth c b LX xs D cy ad L) {n : Nat} (hn : 4 * n + 4 ≤ LX) (K : lwK p l e s mi below meth c b D cy ad L (n + 1) n 1351) : lwK p l e s mi below meth c b D cy ad L n n 596 := by
  intro d0 hd0 H locs ls m bc sc bu hq f cn R hw hl
  obtain ⟨hst, C, E, N, hX, hbl, hbA, hAs, hr, hlocks, hml, hL, hn0, hn1, hLX⟩ := id F
  have C := zX_d0 d0 C
  have E : zE (zA ad L (s.setDrawn d0).heap.size) (s.setDrawn d0) (s.setDrawn d0).heap := zE_same (u := s) (U := s.setDrawn d0) rfl E
  have N : zNcs (s.setDrawn d0) := zNcs_to (u := s) (U := s.setDrawn d0) (Vm.Alike.refl _) N
  have hw : zH D cy ad L (s.setDrawn d0).heap H locs m := hw
  have hx := C.1
  have hb := C.2.1
  have T := tc_bring R (show n < 512 by omega) (xs (4 * n + 1)) (xs (4 * n + 2)) (xs (4 * n + 3))
  unfold tDone at T
  refine lv_aload_n hx hb dL_law_596 rfl (lv_at hl 3 rfl) ?_
  refine lv_aload_n hx hb dL_law_597 rfl (lv_at hl 4 rfl) ?_
  refine lv_iload hx hb dL_law_598 (lv_at hl 0 rfl) ?_
  refine lv_iconst (v := 1) hx hb dL_law_600 (by decide) ?_
  refine lv_iadd hx hb dL_law_601 ?_
  refine lw_sld F hw (k := 4 * n + 1) (zadd (b := 1) rfl rfl) (by omega) dL_law_602 ?_
  refine lv_aload_n hx hb dL_law_603 rfl (lv_at hl 4 rfl) ?_
  refine lv_iload hx hb dL_law_604 (lv_at hl 0 rfl) ?_
  refine lv_iconst (v := 2) hx hb dL_law_606 (by decide) ?_
  refine lv_iadd hx hb dL_law_607 ?_
  refine lw_sld F hw (k := 4 * n + 2) (zadd (b := 2) rfl rfl) (by omega) dL_law_608 ?_
  refine lv_aload_n hx hb dL_law_609 rfl (lv_at hl 4 rfl) ?_
  refine lv_iload hx hb dL_law_610 (lv_at hl 0 rfl) ?_
  refine lv_iconst (v := 3) hx hb dL_law_612 (by decide) ?_
  refine lv_iadd hx hb dL_law_613 ?_
  refine lw_sld F hw (k := 4 * n + 3) (zadd (b := 3) rfl rfl) (by omega) dL_law_614 ?_
  refine lv_aload_n hx hb dL_law_615 rfl (lv_at hl 1 rfl) ?_
  refine zafter_iC C hw (zrunSW (As := [.ref (ad (0, 0, 0)), .int (xs (4 * n + 1)), .int (xs (4 * n + 2)), .int (xs (4 * n + 3)), .ref (ad (14, 0, 0))]) (rest := []) C E N hml hl.1 hw (c_L_bring l hst D cy ad m H.size hL R.2.2.1.1 R.2.2.1.2.1 R.2.2.1.2.2.1 R.2.2.1.2.2.2.2.1 (xs (4 * n + 1)) (xs (4 * n + 2)) (xs (4 * n + 3))) zv_L_107 rfl rfl rfl ⟨Nat.le_of_ble_eq_true rfl, Nat.le_of_ble_eq_true rfl⟩ rfl (Nat.le_of_ble_eq_true rfl) dL_law_616 ⟨(show (300 + 20 * n) + 2 ≤ 601024 by omega), (show (1500 + 220 * n) + 12 ≤ 7293034 by omega)⟩) (fun r1 m1 H locs hr1 hw => ?_)
  obtain ⟨e1, e2⟩ := hr1
  rw [← e2, ← e1] at T
  obtain ⟨G1, h12, h14, R1⟩ := T
  have h12 : (q8_bring m1 cn (xs (4 * n + 1)) (xs (4 * n + 2)) (xs (4 * n + 3))).2 (12, 0, 0) 0 = r1 := h12
  have h14 : r1 = 0 → (q8_bring m1 cn (xs (4 * n + 1)) (xs (4 * n + 2)) (xs (4 * n + 3))).2 (14, 0, 0) 0 = (q8_bring m1 cn (xs (4 * n + 1)) (xs (4 * n + 2)) (xs (4 * n + 3))).1 := h14
  have R1 : ∃ bc1 sc1 bu1 hq1 f1 cn1, RQ (q8_bring m1 cn (xs (4 * n + 1)) (xs (4 * n + 2)) (xs (4 * n + 3))).2 (q8_bring m1 cn (xs (4 * n + 1)) (xs (4 * n + 2)) (xs (4 * n + 3))).2 (n + 1) bc1 sc1 bu1 hq1 f1 cn1 := R1
  refine lv_istore (lv' := (5, .int r1) :: lwl b ad (nI (4 * n))) hx hb dL_law_619 hl (by decide) rfl (fun ls hl => ?_)
  refine lv_aload_n hx hb dL_law_621 rfl (lv_at hl 3 rfl) ?_
  refine lv_aload_n hx hb dL_law_622 rfl (lv_at hl 5 rfl) ?_
  refine lv_iload hx hb dL_law_623 (lv_at hl 1 rfl) ?_
  refine lv_iconst (v := 1) hx hb dL_law_625 (by decide) ?_
  refine lv_iadd hx hb dL_law_626 ?_
  refine lw_sld F hw (k := 4 * n + 1) (zadd (b := 1) rfl rfl) (by omega) dL_law_627 ?_
  refine lv_aload_n hx hb dL_law_628 rfl (lv_at hl 5 rfl) ?_
  refine lv_iload hx hb dL_law_629 (lv_at hl 1 rfl) ?_
  refine lv_iconst (v := 2) hx hb dL_law_631 (by decide) ?_
  refine lv_iadd hx hb dL_law_632 ?_
  refine lw_sld F hw (k := 4 * n + 2) (zadd (b := 2) rfl rfl) (by omega) dL_law_633 ?_
  refine lv_aload_n hx hb dL_law_634 rfl (lv_at hl 5 rfl) ?_
  refine lv_iload hx hb dL_law_635 (lv_at hl 1 rfl) ?_
  refine lv_iconst (v := 3) hx hb dL_law_637 (by decide) ?_
  refine lv_iadd hx hb dL_law_638 ?_
  refine lw_sld F hw (k := 4 * n + 3) (zadd (b := 3) rfl rfl) (by omega) dL_law_639 ?_
  refine zafter_iC C hw (zrunV (As := [.int (xs (4 * n + 1)), .int (xs (4 * n + 2)), .int (xs (4 * n + 3))]) (rest := []) C hml hl.1 hw (zn12 hL) rfl rfl (c_X8_bring l D cy ad m1 H.size hL G1 (xs (4 * n + 1)) (xs (4 * n + 2)) (xs (4 * n + 3))) zv_L_109 rfl rfl rfl ⟨Nat.le_of_ble_eq_true rfl, Nat.le_of_ble_eq_true rfl⟩ rfl (Nat.le_of_ble_eq_true rfl) dL_law_640 ⟨(show (300 + 20 * n) + 2 + 0 ≤ 601024 by omega), (show (1500 + 220 * n) + 12 + 0 ≤ 7293034 by omega)⟩) (fun r2 m2 H locs hr2 hw => ?_)
  obtain ⟨e3, e4⟩ := hr2
  rw [← e4] at h12 R1
  rw [← e4, ← e3] at h14
  obtain ⟨bc1, sc1, bu1, hq1, f1, cn1, R1⟩ := R1
  refine lv_istore (lv' := (6, .int r2) :: (5, .int r1) :: lwl b ad (nI (4 * n))) hx hb dL_law_643 hl (by decide) rfl (fun ls hl => ?_)
  refine lv_aload_n hx hb dL_law_645 rfl (lv_at hl 4 rfl) ?_
  refine zafter_iC C hw (zrunV (As := []) (rest := []) C hml hl.1 hw (zn12 hL) rfl rfl (c_X8_thrown l D cy ad m2 H.size hL) zv_L_83 rfl rfl rfl ⟨Nat.le_of_ble_eq_true rfl, Nat.le_of_ble_eq_true rfl⟩ rfl (Nat.le_of_ble_eq_true rfl) dL_law_646 ⟨(show ((300 + 20 * n) + 2) + 0 + 0 ≤ 601024 by omega), (show ((1500 + 220 * n) + 12) + 0 + 0 ≤ 7293034 by omega)⟩) (fun r3 m3 H locs hr3 hw => ?_)
  obtain ⟨e5, e6⟩ := hr3
  rw [e6] at hw
  rw [h12] at e5
  refine lv_iload hx hb dL_law_649 (lv_at hl 1 rfl) ?_
  refine lv_icmp_eq (tgt := 656) hx hb dL_law_651 (by decide) (fun _ => ?_) (fun z => absurd e5 z)
  refine lv_iload hx hb dL_law_656 (lv_at hl 1 rfl) ?_
  have fin : W p l e room_1 (s.setDrawn d0) mi #[Value.ref b] below meth c H locs ((300 + 20 * n) + 2 + 0 + 0) (1500 + 220 * n + 12 + 0 + 0) (lw_Z below #[Value.ref b] s) (F0 mi 673 ls []) := by
    refine lv_goto (tgt := 1351) hx hb dL_law_673 (by decide) ?_
    refine W.widen (k := 300 + 20 * (n + 1)) (n := 1500 + 220 * (n + 1)) (by omega) (by omega) ?_
    exact K d0 hd0 H locs ls m2 bc1 sc1 bu1 hq1 f1 cn1 R1 hw (lv_sub hl [2, 3, 4, 5, 6] rfl)
  refine lv_if_ne (tgt := 673) hx hb dL_law_658 (by decide) (fun _ => fin) (fun z0 => ?_)
  have h14 := h14 z0
  refine lv_aload_n hx hb dL_law_661 rfl (lv_at hl 3 rfl) ?_
  refine lv_iconst (v := 0) hx hb dL_law_662 (by decide) ?_
  refine zlald C hw (zn14 hL) dL_law_663 ?_
  refine lv_iload hx hb dL_law_664 (lv_at hl 0 rfl) ?_
  refine lv_i2l hx hb dL_law_666 rfl ?_
  refine W.lcmp hx hb dL_law_667 ?_
  refine lv_if_eq (tgt := 673) hx hb dL_law_668 (by decide) (fun _ => fin) (fun z => absurd (by rw [h14]; exact lw_cmp0) z)
set_option maxHeartbeats 4000000 in
set_option maxRecDepth 100000 in
theorem lw_case_lot {p : Program} {l : Launch} {e : Env} {s : State} {mi : MethodId} {below : List Frame} {meth : Method} {c : Code} {b LX : Nat} {xs : Nat → Int32} {D : va_G} {cy : Nat → ClassId} {ad : ZN → Nat} {L : List ZN} (F : lwF l p s mi meth c b LX xs D cy ad L) {n : Nat} (hn : 4 * n + 4 ≤ LX) (K : lwK p l e s mi below meth c b D cy ad L (n + 1) n 1351) : lwK p l e s mi below meth c b D cy ad L n n 676 := by
  intro d0 hd0 H locs ls m bc sc bu hq f cn R hw hl
  obtain ⟨hst, C, E, N, hX, hbl, hbA, hAs, hr, hlocks, hml, hL, hn0, hn1, hLX⟩ := id F
  have C := zX_d0 d0 C
  have E : zE (zA ad L (s.setDrawn d0).heap.size) (s.setDrawn d0) (s.setDrawn d0).heap := zE_same (u := s) (U := s.setDrawn d0) rfl E
  have N : zNcs (s.setDrawn d0) := zNcs_to (u := s) (U := s.setDrawn d0) (Vm.Alike.refl _) N
  have hw : zH D cy ad L (s.setDrawn d0).heap H locs m := hw
  have hx := C.1
  have hb := C.2.1
  have T := tc_lot R (show n < 512 by omega) (xs (4 * n + 1)) (xs (4 * n + 2))
  unfold tDone at T
  refine lv_aload_n hx hb dL_law_676 rfl (lv_at hl 3 rfl) ?_
  refine lv_aload_n hx hb dL_law_677 rfl (lv_at hl 4 rfl) ?_
  refine lv_iload hx hb dL_law_678 (lv_at hl 0 rfl) ?_
  refine lv_iconst (v := 1) hx hb dL_law_680 (by decide) ?_
  refine lv_iadd hx hb dL_law_681 ?_
  refine lw_sld F hw (k := 4 * n + 1) (zadd (b := 1) rfl rfl) (by omega) dL_law_682 ?_
  refine lv_aload_n hx hb dL_law_683 rfl (lv_at hl 4 rfl) ?_
  refine lv_iload hx hb dL_law_684 (lv_at hl 0 rfl) ?_
  refine lv_iconst (v := 2) hx hb dL_law_686 (by decide) ?_
  refine lv_iadd hx hb dL_law_687 ?_
  refine lw_sld F hw (k := 4 * n + 2) (zadd (b := 2) rfl rfl) (by omega) dL_law_688 ?_
  refine lv_aload_n hx hb dL_law_689 rfl (lv_at hl 1 rfl) ?_
  refine zafter_iC C hw (zrunSW (As := [.ref (ad (0, 0, 0)), .int (xs (4 * n + 1)), .int (xs (4 * n + 2)), .ref (ad (14, 0, 0))]) (rest := []) C E N hml hl.1 hw (c_L_lot l hst D cy ad m H.size hL R.2.2.1.1 R.2.2.1.2.1 R.2.2.1.2.2.1 R.2.2.1.2.2.2.2.1 (xs (4 * n + 1)) (xs (4 * n + 2))) zv_L_110 rfl rfl rfl ⟨Nat.le_of_ble_eq_true rfl, Nat.le_of_ble_eq_true rfl⟩ rfl (Nat.le_of_ble_eq_true rfl) dL_law_690 ⟨(show (300 + 20 * n) + 1 ≤ 601024 by omega), (show (1500 + 220 * n) + 6 ≤ 7293034 by omega)⟩) (fun r1 m1 H locs hr1 hw => ?_)
  obtain ⟨e1, e2⟩ := hr1
  rw [← e2, ← e1] at T
  obtain ⟨G1, h12, h14, R1⟩ := T
  have h12 : (q8_lot m1 cn (xs (4 * n + 1)) (xs (4 * n + 2))).2 (12, 0, 0) 0 = r1 := h12
  have h14 : r1 = 0 → (q8_lot m1 cn (xs (4 * n + 1)) (xs (4 * n + 2))).2 (14, 0, 0) 0 = (q8_lot m1 cn (xs (4 * n + 1)) (xs (4 * n + 2))).1 := h14
  have R1 : ∃ bc1 sc1 bu1 hq1 f1 cn1, RQ (q8_lot m1 cn (xs (4 * n + 1)) (xs (4 * n + 2))).2 (q8_lot m1 cn (xs (4 * n + 1)) (xs (4 * n + 2))).2 (n + 1) bc1 sc1 bu1 hq1 f1 cn1 := R1
  refine lv_istore (lv' := (5, .int r1) :: lwl b ad (nI (4 * n))) hx hb dL_law_693 hl (by decide) rfl (fun ls hl => ?_)
  refine lv_aload_n hx hb dL_law_695 rfl (lv_at hl 3 rfl) ?_
  refine lv_aload_n hx hb dL_law_696 rfl (lv_at hl 5 rfl) ?_
  refine lv_iload hx hb dL_law_697 (lv_at hl 1 rfl) ?_
  refine lv_iconst (v := 1) hx hb dL_law_699 (by decide) ?_
  refine lv_iadd hx hb dL_law_700 ?_
  refine lw_sld F hw (k := 4 * n + 1) (zadd (b := 1) rfl rfl) (by omega) dL_law_701 ?_
  refine lv_aload_n hx hb dL_law_702 rfl (lv_at hl 5 rfl) ?_
  refine lv_iload hx hb dL_law_703 (lv_at hl 1 rfl) ?_
  refine lv_iconst (v := 2) hx hb dL_law_705 (by decide) ?_
  refine lv_iadd hx hb dL_law_706 ?_
  refine lw_sld F hw (k := 4 * n + 2) (zadd (b := 2) rfl rfl) (by omega) dL_law_707 ?_
  refine zafter_iC C hw (zrunV (As := [.int (xs (4 * n + 1)), .int (xs (4 * n + 2))]) (rest := []) C hml hl.1 hw (zn12 hL) rfl rfl (c_X8_lot l D cy ad m1 H.size hL G1 (xs (4 * n + 1)) (xs (4 * n + 2))) zv_L_112 rfl rfl rfl ⟨Nat.le_of_ble_eq_true rfl, Nat.le_of_ble_eq_true rfl⟩ rfl (Nat.le_of_ble_eq_true rfl) dL_law_708 ⟨(show (300 + 20 * n) + 1 + 0 ≤ 601024 by omega), (show (1500 + 220 * n) + 6 + 0 ≤ 7293034 by omega)⟩) (fun r2 m2 H locs hr2 hw => ?_)
  obtain ⟨e3, e4⟩ := hr2
  rw [← e4] at h12 R1
  rw [← e4, ← e3] at h14
  obtain ⟨bc1, sc1, bu1, hq1, f1, cn1, R1⟩ := R1
  refine lv_istore (lv' := (6, .int r2) :: (5, .int r1) :: lwl b ad (nI (4 * n))) hx hb dL_law_711 hl (by decide) rfl (fun ls hl => ?_)
  refine lv_aload_n hx hb dL_law_713 rfl (lv_at hl 4 rfl) ?_
  refine zafter_iC C hw (zrunV (As := []) (rest := []) C hml hl.1 hw (zn12 hL) rfl rfl (c_X8_thrown l D cy ad m2 H.size hL) zv_L_83 rfl rfl rfl ⟨Nat.le_of_ble_eq_true rfl, Nat.le_of_ble_eq_true rfl⟩ rfl (Nat.le_of_ble_eq_true rfl) dL_law_714 ⟨(show ((300 + 20 * n) + 1) + 0 + 0 ≤ 601024 by omega), (show ((1500 + 220 * n) + 6) + 0 + 0 ≤ 7293034 by omega)⟩) (fun r3 m3 H locs hr3 hw => ?_)
  obtain ⟨e5, e6⟩ := hr3
  rw [e6] at hw
  rw [h12] at e5
  refine lv_iload hx hb dL_law_717 (lv_at hl 1 rfl) ?_
  refine lv_icmp_eq (tgt := 724) hx hb dL_law_719 (by decide) (fun _ => ?_) (fun z => absurd e5 z)
  refine lv_iload hx hb dL_law_724 (lv_at hl 1 rfl) ?_
  have fin : W p l e room_1 (s.setDrawn d0) mi #[Value.ref b] below meth c H locs ((300 + 20 * n) + 1 + 0 + 0) (1500 + 220 * n + 6 + 0 + 0) (lw_Z below #[Value.ref b] s) (F0 mi 741 ls []) := by
    refine lv_goto (tgt := 1351) hx hb dL_law_741 (by decide) ?_
    refine W.widen (k := 300 + 20 * (n + 1)) (n := 1500 + 220 * (n + 1)) (by omega) (by omega) ?_
    exact K d0 hd0 H locs ls m2 bc1 sc1 bu1 hq1 f1 cn1 R1 hw (lv_sub hl [2, 3, 4, 5, 6] rfl)
  refine lv_if_ne (tgt := 741) hx hb dL_law_726 (by decide) (fun _ => fin) (fun z0 => ?_)
  have h14 := h14 z0
  refine lv_aload_n hx hb dL_law_729 rfl (lv_at hl 3 rfl) ?_
  refine lv_iconst (v := 0) hx hb dL_law_730 (by decide) ?_
  refine zlald C hw (zn14 hL) dL_law_731 ?_
  refine lv_iload hx hb dL_law_732 (lv_at hl 0 rfl) ?_
  refine lv_i2l hx hb dL_law_734 rfl ?_
  refine W.lcmp hx hb dL_law_735 ?_
  refine lv_if_eq (tgt := 741) hx hb dL_law_736 (by decide) (fun _ => fin) (fun z => absurd (by rw [h14]; exact lw_cmp0) z)
set_option maxHeartbeats 4000000 in
set_option maxRecDepth 100000 in
theorem lw_case_run {p : Program} {l : Launch} {e : Env} {s : State} {mi : MethodId} {below : List Frame} {meth : Method} {c : Code} {b LX : Nat} {xs : Nat → Int32} {D : va_G} {cy : Nat → ClassId} {ad : ZN → Nat} {L : List ZN} (F : lwF l p s mi meth c b LX xs D cy ad L) {n : Nat} (hn : 4 * n + 4 ≤ LX) (K : lwK p l e s mi below meth c b D cy ad L (n + 1) n 1351) : lwK p l e s mi below meth c b D cy ad L n n 744 := by
  intro d0 hd0 H locs ls m bc sc bu hq f cn R hw hl
  obtain ⟨hst, C, E, N, hX, hbl, hbA, hAs, hr, hlocks, hml, hL, hn0, hn1, hLX⟩ := id F
  have C := zX_d0 d0 C
  have E : zE (zA ad L (s.setDrawn d0).heap.size) (s.setDrawn d0) (s.setDrawn d0).heap := zE_same (u := s) (U := s.setDrawn d0) rfl E
  have N : zNcs (s.setDrawn d0) := zNcs_to (u := s) (U := s.setDrawn d0) (Vm.Alike.refl _) N
  have hw : zH D cy ad L (s.setDrawn d0).heap H locs m := hw
  have hx := C.1
  have hb := C.2.1
  have T := tc_run R (show n < 512 by omega) (xs (4 * n + 1))
  unfold tDone at T
  refine lv_aload_n hx hb dL_law_744 rfl (lv_at hl 3 rfl) ?_
  refine lv_aload_n hx hb dL_law_745 rfl (lv_at hl 4 rfl) ?_
  refine lv_iload hx hb dL_law_746 (lv_at hl 0 rfl) ?_
  refine lv_iconst (v := 1) hx hb dL_law_748 (by decide) ?_
  refine lv_iadd hx hb dL_law_749 ?_
  refine lw_sld F hw (k := 4 * n + 1) (zadd (b := 1) rfl rfl) (by omega) dL_law_750 ?_
  refine lv_aload_n hx hb dL_law_751 rfl (lv_at hl 1 rfl) ?_
  refine zafter_iC C hw (zrunSW (As := [.ref (ad (0, 0, 0)), .int (xs (4 * n + 1)), .ref (ad (14, 0, 0))]) (rest := []) C E N hml hl.1 hw (c_L_run l hst D cy ad m H.size hL (RQ_gW R) R.1 (xs (4 * n + 1))) zv_L_113 rfl rfl rfl ⟨Nat.le_of_ble_eq_true rfl, Nat.le_of_ble_eq_true rfl⟩ rfl (Nat.le_of_ble_eq_true rfl) dL_law_752 ⟨(show (300 + 20 * n) + 2 ≤ 601024 by omega), (show (1500 + 220 * n) + 12 ≤ 7293034 by omega)⟩) (fun r1 m1 H locs hr1 hw => ?_)
  obtain ⟨e1, e2⟩ := hr1
  rw [← e2, ← e1] at T
  obtain ⟨G1, h12, h14, R1⟩ := T
  have h12 : (q8_run m1 bc sc bu hq (xs (4 * n + 1))).2 (12, 0, 0) 0 = r1 := h12
  have h14 : r1 = 0 → (q8_run m1 bc sc bu hq (xs (4 * n + 1))).2 (14, 0, 0) 0 = (q8_run m1 bc sc bu hq (xs (4 * n + 1))).1 := h14
  have R1 : ∃ bc1 sc1 bu1 hq1 f1 cn1, RQ (q8_run m1 bc sc bu hq (xs (4 * n + 1))).2 (q8_run m1 bc sc bu hq (xs (4 * n + 1))).2 (n + 1) bc1 sc1 bu1 hq1 f1 cn1 := R1
  refine lv_istore (lv' := (5, .int r1) :: lwl b ad (nI (4 * n))) hx hb dL_law_755 hl (by decide) rfl (fun ls hl => ?_)
  refine lv_aload_n hx hb dL_law_757 rfl (lv_at hl 3 rfl) ?_
  refine lv_aload_n hx hb dL_law_758 rfl (lv_at hl 5 rfl) ?_
  refine lv_iload hx hb dL_law_759 (lv_at hl 1 rfl) ?_
  refine lv_iconst (v := 1) hx hb dL_law_761 (by decide) ?_
  refine lv_iadd hx hb dL_law_762 ?_
  refine lw_sld F hw (k := 4 * n + 1) (zadd (b := 1) rfl rfl) (by omega) dL_law_763 ?_
  refine zafter_iC C hw (zrunV (As := [.int (xs (4 * n + 1))]) (rest := []) C hml hl.1 hw (zn12 hL) rfl rfl (c_X8_run_ l D cy ad m1 H.size hL G1 R.1 (xs (4 * n + 1))) zv_L_115 rfl rfl rfl ⟨Nat.le_of_ble_eq_true rfl, Nat.le_of_ble_eq_true rfl⟩ rfl (Nat.le_of_ble_eq_true rfl) dL_law_764 ⟨(show (300 + 20 * n) + 2 + 0 ≤ 601024 by omega), (show (1500 + 220 * n) + 12 + 0 ≤ 7293034 by omega)⟩) (fun r2 m2 H locs hr2 hw => ?_)
  obtain ⟨e3, e4⟩ := hr2
  rw [← e4] at h12 R1
  rw [← e4, ← e3] at h14
  obtain ⟨bc1, sc1, bu1, hq1, f1, cn1, R1⟩ := R1
  refine lv_istore (lv' := (6, .int r2) :: (5, .int r1) :: lwl b ad (nI (4 * n))) hx hb dL_law_767 hl (by decide) rfl (fun ls hl => ?_)
  refine lv_aload_n hx hb dL_law_769 rfl (lv_at hl 4 rfl) ?_
  refine zafter_iC C hw (zrunV (As := []) (rest := []) C hml hl.1 hw (zn12 hL) rfl rfl (c_X8_thrown l D cy ad m2 H.size hL) zv_L_83 rfl rfl rfl ⟨Nat.le_of_ble_eq_true rfl, Nat.le_of_ble_eq_true rfl⟩ rfl (Nat.le_of_ble_eq_true rfl) dL_law_770 ⟨(show ((300 + 20 * n) + 2) + 0 + 0 ≤ 601024 by omega), (show ((1500 + 220 * n) + 12) + 0 + 0 ≤ 7293034 by omega)⟩) (fun r3 m3 H locs hr3 hw => ?_)
  obtain ⟨e5, e6⟩ := hr3
  rw [e6] at hw
  rw [h12] at e5
  refine lv_iload hx hb dL_law_773 (lv_at hl 1 rfl) ?_
  refine lv_icmp_eq (tgt := 780) hx hb dL_law_775 (by decide) (fun _ => ?_) (fun z => absurd e5 z)
  refine lv_iload hx hb dL_law_780 (lv_at hl 1 rfl) ?_
  have fin : W p l e room_1 (s.setDrawn d0) mi #[Value.ref b] below meth c H locs ((300 + 20 * n) + 2 + 0 + 0) (1500 + 220 * n + 12 + 0 + 0) (lw_Z below #[Value.ref b] s) (F0 mi 797 ls []) := by
    refine lv_goto (tgt := 1351) hx hb dL_law_797 (by decide) ?_
    refine W.widen (k := 300 + 20 * (n + 1)) (n := 1500 + 220 * (n + 1)) (by omega) (by omega) ?_
    exact K d0 hd0 H locs ls m2 bc1 sc1 bu1 hq1 f1 cn1 R1 hw (lv_sub hl [2, 3, 4, 5, 6] rfl)
  refine lv_if_ne (tgt := 797) hx hb dL_law_782 (by decide) (fun _ => fin) (fun z0 => ?_)
  have h14 := h14 z0
  refine lv_aload_n hx hb dL_law_785 rfl (lv_at hl 3 rfl) ?_
  refine lv_iconst (v := 0) hx hb dL_law_786 (by decide) ?_
  refine zlald C hw (zn14 hL) dL_law_787 ?_
  refine lv_iload hx hb dL_law_788 (lv_at hl 0 rfl) ?_
  refine lv_i2l hx hb dL_law_790 rfl ?_
  refine W.lcmp hx hb dL_law_791 ?_
  refine lv_if_eq (tgt := 797) hx hb dL_law_792 (by decide) (fun _ => fin) (fun z => absurd (by rw [h14]; exact lw_cmp0) z)
set_option maxHeartbeats 4000000 in
set_option maxRecDepth 100000 in
theorem lw_case_count {p : Program} {l : Launch} {e : Env} {s : State} {mi : MethodId} {below : List Frame} {meth : Method} {c : Code} {b LX : Nat} {xs : Nat → Int32} {D : va_G} {cy : Nat → ClassId} {ad : ZN → Nat} {L : List ZN} (F : lwF l p s mi meth c b LX xs D cy ad L) {n : Nat} (hn : 4 * n + 4 ≤ LX) (K : lwK p l e s mi below meth c b D cy ad L (n + 1) n 1351) : lwK p l e s mi below meth c b D cy ad L n n 800 := by
  intro d0 hd0 H locs ls m bc sc bu hq f cn R hw hl
  obtain ⟨hst, C, E, N, hX, hbl, hbA, hAs, hr, hlocks, hml, hL, hn0, hn1, hLX⟩ := id F
  have C := zX_d0 d0 C
  have E : zE (zA ad L (s.setDrawn d0).heap.size) (s.setDrawn d0) (s.setDrawn d0).heap := zE_same (u := s) (U := s.setDrawn d0) rfl E
  have N : zNcs (s.setDrawn d0) := zNcs_to (u := s) (U := s.setDrawn d0) (Vm.Alike.refl _) N
  have hw : zH D cy ad L (s.setDrawn d0).heap H locs m := hw
  have hx := C.1
  have hb := C.2.1
  have T := tc_count R (show n < 512 by omega) (xs (4 * n + 1))
  unfold tDone at T
  refine lv_aload_n hx hb dL_law_800 rfl (lv_at hl 3 rfl) ?_
  refine lv_aload_n hx hb dL_law_801 rfl (lv_at hl 4 rfl) ?_
  refine lv_iload hx hb dL_law_802 (lv_at hl 0 rfl) ?_
  refine lv_iconst (v := 1) hx hb dL_law_804 (by decide) ?_
  refine lv_iadd hx hb dL_law_805 ?_
  refine lw_sld F hw (k := 4 * n + 1) (zadd (b := 1) rfl rfl) (by omega) dL_law_806 ?_
  refine lv_aload_n hx hb dL_law_807 rfl (lv_at hl 1 rfl) ?_
  refine zafter_iC C hw (zrunSW (As := [.ref (ad (0, 0, 0)), .int (xs (4 * n + 1)), .ref (ad (14, 0, 0))]) (rest := []) C E N hml hl.1 hw (c_L_count l hst D cy ad m H.size hL (RQ_gW R) R.2.2.1.1 R.2.2.1.2.1 R.2.2.1.2.2.1 R.2.2.1.2.2.2.2.1 (xs (4 * n + 1))) zv_L_116 rfl rfl rfl ⟨Nat.le_of_ble_eq_true rfl, Nat.le_of_ble_eq_true rfl⟩ rfl (Nat.le_of_ble_eq_true rfl) dL_law_808 ⟨(show (300 + 20 * n) + 1 ≤ 601024 by omega), (show (1500 + 220 * n) + 6 ≤ 7293034 by omega)⟩) (fun r1 m1 H locs hr1 hw => ?_)
  obtain ⟨e1, e2⟩ := hr1
  rw [← e2, ← e1] at T
  obtain ⟨G1, h12, h14, R1⟩ := T
  have h12 : (q8_count m1 bc cn sc (xs (4 * n + 1))).2 (12, 0, 0) 0 = r1 := h12
  have h14 : r1 = 0 → (q8_count m1 bc cn sc (xs (4 * n + 1))).2 (14, 0, 0) 0 = (q8_count m1 bc cn sc (xs (4 * n + 1))).1 := h14
  have R1 : ∃ bc1 sc1 bu1 hq1 f1 cn1, RQ (q8_count m1 bc cn sc (xs (4 * n + 1))).2 (q8_count m1 bc cn sc (xs (4 * n + 1))).2 (n + 1) bc1 sc1 bu1 hq1 f1 cn1 := R1
  refine lv_istore (lv' := (5, .int r1) :: lwl b ad (nI (4 * n))) hx hb dL_law_811 hl (by decide) rfl (fun ls hl => ?_)
  refine lv_aload_n hx hb dL_law_813 rfl (lv_at hl 3 rfl) ?_
  refine lv_aload_n hx hb dL_law_814 rfl (lv_at hl 5 rfl) ?_
  refine lv_iload hx hb dL_law_815 (lv_at hl 1 rfl) ?_
  refine lv_iconst (v := 1) hx hb dL_law_817 (by decide) ?_
  refine lv_iadd hx hb dL_law_818 ?_
  refine lw_sld F hw (k := 4 * n + 1) (zadd (b := 1) rfl rfl) (by omega) dL_law_819 ?_
  refine zafter_iC C hw (zrunV (As := [.int (xs (4 * n + 1))]) (rest := []) C hml hl.1 hw (zn12 hL) rfl rfl (c_X8_count l D cy ad m1 H.size hL hn0 G1 (xs (4 * n + 1))) zv_L_118 rfl rfl rfl ⟨Nat.le_of_ble_eq_true rfl, Nat.le_of_ble_eq_true rfl⟩ rfl (Nat.le_of_ble_eq_true rfl) dL_law_820 ⟨(show (300 + 20 * n) + 1 + 1 ≤ 601024 by omega), (show (1500 + 220 * n) + 6 + 14 ≤ 7293034 by omega)⟩) (fun r2 m2 H locs hr2 hw => ?_)
  obtain ⟨e3, e4⟩ := hr2
  rw [← e4] at h12 R1
  rw [← e4, ← e3] at h14
  obtain ⟨bc1, sc1, bu1, hq1, f1, cn1, R1⟩ := R1
  refine lv_istore (lv' := (6, .int r2) :: (5, .int r1) :: lwl b ad (nI (4 * n))) hx hb dL_law_823 hl (by decide) rfl (fun ls hl => ?_)
  refine lv_aload_n hx hb dL_law_825 rfl (lv_at hl 4 rfl) ?_
  refine zafter_iC C hw (zrunV (As := []) (rest := []) C hml hl.1 hw (zn12 hL) rfl rfl (c_X8_thrown l D cy ad m2 H.size hL) zv_L_83 rfl rfl rfl ⟨Nat.le_of_ble_eq_true rfl, Nat.le_of_ble_eq_true rfl⟩ rfl (Nat.le_of_ble_eq_true rfl) dL_law_826 ⟨(show ((300 + 20 * n) + 1) + 1 + 0 ≤ 601024 by omega), (show ((1500 + 220 * n) + 6) + 14 + 0 ≤ 7293034 by omega)⟩) (fun r3 m3 H locs hr3 hw => ?_)
  obtain ⟨e5, e6⟩ := hr3
  rw [e6] at hw
  rw [h12] at e5
  refine lv_iload hx hb dL_law_829 (lv_at hl 1 rfl) ?_
  refine lv_icmp_eq (tgt := 836) hx hb dL_law_831 (by decide) (fun _ => ?_) (fun z => absurd e5 z)
  refine lv_iload hx hb dL_law_836 (lv_at hl 1 rfl) ?_
  have fin : W p l e room_1 (s.setDrawn d0) mi #[Value.ref b] below meth c H locs ((300 + 20 * n) + 1 + 1 + 0) (1500 + 220 * n + 6 + 14 + 0) (lw_Z below #[Value.ref b] s) (F0 mi 853 ls []) := by
    refine lv_goto (tgt := 1351) hx hb dL_law_853 (by decide) ?_
    refine W.widen (k := 300 + 20 * (n + 1)) (n := 1500 + 220 * (n + 1)) (by omega) (by omega) ?_
    exact K d0 hd0 H locs ls m2 bc1 sc1 bu1 hq1 f1 cn1 R1 hw (lv_sub hl [2, 3, 4, 5, 6] rfl)
  refine lv_if_ne (tgt := 853) hx hb dL_law_838 (by decide) (fun _ => fin) (fun z0 => ?_)
  have h14 := h14 z0
  refine lv_aload_n hx hb dL_law_841 rfl (lv_at hl 3 rfl) ?_
  refine lv_iconst (v := 0) hx hb dL_law_842 (by decide) ?_
  refine zlald C hw (zn14 hL) dL_law_843 ?_
  refine lv_iload hx hb dL_law_844 (lv_at hl 0 rfl) ?_
  refine lv_i2l hx hb dL_law_846 rfl ?_
  refine W.lcmp hx hb dL_law_847 ?_
  refine lv_if_eq (tgt := 853) hx hb dL_law_848 (by decide) (fun _ => fin) (fun z => absurd (by rw [h14]; exact lw_cmp0) z)
set_option maxHeartbeats 4000000 in
set_option maxRecDepth 100000 in
theorem lw_case_buddle {p : Program} {l : Launch} {e : Env} {s : State} {mi : MethodId} {below : List Frame} {meth : Method} {c : Code} {b LX : Nat} {xs : Nat → Int32} {D : va_G} {cy : Nat → ClassId} {ad : ZN → Nat} {L : List ZN} (F : lwF l p s mi meth c b LX xs D cy ad L) {n : Nat} (hn : 4 * n + 4 ≤ LX) (K : lwK p l e s mi below meth c b D cy ad L (n + 1) n 1351) : lwK p l e s mi below meth c b D cy ad L n n 856 := by
  intro d0 hd0 H locs ls m bc sc bu hq f cn R hw hl
  obtain ⟨hst, C, E, N, hX, hbl, hbA, hAs, hr, hlocks, hml, hL, hn0, hn1, hLX⟩ := id F
  have C := zX_d0 d0 C
  have E : zE (zA ad L (s.setDrawn d0).heap.size) (s.setDrawn d0) (s.setDrawn d0).heap := zE_same (u := s) (U := s.setDrawn d0) rfl E
  have N : zNcs (s.setDrawn d0) := zNcs_to (u := s) (U := s.setDrawn d0) (Vm.Alike.refl _) N
  have hw : zH D cy ad L (s.setDrawn d0).heap H locs m := hw
  have hx := C.1
  have hb := C.2.1
  have T := tc_buddle R (show n < 512 by omega) (xs (4 * n + 1)) (xs (4 * n + 2))
  unfold tDone at T
  refine lv_aload_n hx hb dL_law_856 rfl (lv_at hl 3 rfl) ?_
  refine lv_aload_n hx hb dL_law_857 rfl (lv_at hl 4 rfl) ?_
  refine lv_iload hx hb dL_law_858 (lv_at hl 0 rfl) ?_
  refine lv_iconst (v := 1) hx hb dL_law_860 (by decide) ?_
  refine lv_iadd hx hb dL_law_861 ?_
  refine lw_sld F hw (k := 4 * n + 1) (zadd (b := 1) rfl rfl) (by omega) dL_law_862 ?_
  refine lv_aload_n hx hb dL_law_863 rfl (lv_at hl 4 rfl) ?_
  refine lv_iload hx hb dL_law_864 (lv_at hl 0 rfl) ?_
  refine lv_iconst (v := 2) hx hb dL_law_866 (by decide) ?_
  refine lv_iadd hx hb dL_law_867 ?_
  refine lw_sld F hw (k := 4 * n + 2) (zadd (b := 2) rfl rfl) (by omega) dL_law_868 ?_
  refine lv_aload_n hx hb dL_law_869 rfl (lv_at hl 1 rfl) ?_
  refine zafter_iC C hw (zrunSW (As := [.ref (ad (0, 0, 0)), .int (xs (4 * n + 1)), .int (xs (4 * n + 2)), .ref (ad (14, 0, 0))]) (rest := []) C E N hml hl.1 hw (c_L_buddle l hst D cy ad m H.size hL (xs (4 * n + 1)) (xs (4 * n + 2))) zv_L_119 rfl rfl rfl ⟨Nat.le_of_ble_eq_true rfl, Nat.le_of_ble_eq_true rfl⟩ rfl (Nat.le_of_ble_eq_true rfl) dL_law_870 ⟨(show (300 + 20 * n) + 2 ≤ 601024 by omega), (show (1500 + 220 * n) + 12 ≤ 7293034 by omega)⟩) (fun r1 m1 H locs hr1 hw => ?_)
  obtain ⟨e1, e2⟩ := hr1
  rw [← e2, ← e1] at T
  obtain ⟨G1, h12, h14, R1⟩ := T
  have h12 : (q8_buddle m1 (xs (4 * n + 1)) (xs (4 * n + 2))).2 (12, 0, 0) 0 = r1 := h12
  have h14 : r1 = 0 → (q8_buddle m1 (xs (4 * n + 1)) (xs (4 * n + 2))).2 (14, 0, 0) 0 = (q8_buddle m1 (xs (4 * n + 1)) (xs (4 * n + 2))).1 := h14
  have R1 : ∃ bc1 sc1 bu1 hq1 f1 cn1, RQ (q8_buddle m1 (xs (4 * n + 1)) (xs (4 * n + 2))).2 (q8_buddle m1 (xs (4 * n + 1)) (xs (4 * n + 2))).2 (n + 1) bc1 sc1 bu1 hq1 f1 cn1 := R1
  refine lv_istore (lv' := (5, .int r1) :: lwl b ad (nI (4 * n))) hx hb dL_law_873 hl (by decide) rfl (fun ls hl => ?_)
  refine lv_aload_n hx hb dL_law_875 rfl (lv_at hl 3 rfl) ?_
  refine lv_aload_n hx hb dL_law_876 rfl (lv_at hl 5 rfl) ?_
  refine lv_iload hx hb dL_law_877 (lv_at hl 1 rfl) ?_
  refine lv_iconst (v := 1) hx hb dL_law_879 (by decide) ?_
  refine lv_iadd hx hb dL_law_880 ?_
  refine lw_sld F hw (k := 4 * n + 1) (zadd (b := 1) rfl rfl) (by omega) dL_law_881 ?_
  refine lv_aload_n hx hb dL_law_882 rfl (lv_at hl 5 rfl) ?_
  refine lv_iload hx hb dL_law_883 (lv_at hl 1 rfl) ?_
  refine lv_iconst (v := 2) hx hb dL_law_885 (by decide) ?_
  refine lv_iadd hx hb dL_law_886 ?_
  refine lw_sld F hw (k := 4 * n + 2) (zadd (b := 2) rfl rfl) (by omega) dL_law_887 ?_
  refine zafter_iC C hw (zrunV (As := [.int (xs (4 * n + 1)), .int (xs (4 * n + 2))]) (rest := []) C hml hl.1 hw (zn12 hL) rfl rfl (c_X8_buddle l D cy ad m1 H.size hL (xs (4 * n + 1)) (xs (4 * n + 2))) zv_L_121 rfl rfl rfl ⟨Nat.le_of_ble_eq_true rfl, Nat.le_of_ble_eq_true rfl⟩ rfl (Nat.le_of_ble_eq_true rfl) dL_law_888 ⟨(show (300 + 20 * n) + 2 + 0 ≤ 601024 by omega), (show (1500 + 220 * n) + 12 + 0 ≤ 7293034 by omega)⟩) (fun r2 m2 H locs hr2 hw => ?_)
  obtain ⟨e3, e4⟩ := hr2
  rw [← e4] at h12 R1
  rw [← e4, ← e3] at h14
  obtain ⟨bc1, sc1, bu1, hq1, f1, cn1, R1⟩ := R1
  refine lv_istore (lv' := (6, .int r2) :: (5, .int r1) :: lwl b ad (nI (4 * n))) hx hb dL_law_891 hl (by decide) rfl (fun ls hl => ?_)
  refine lv_aload_n hx hb dL_law_893 rfl (lv_at hl 4 rfl) ?_
  refine zafter_iC C hw (zrunV (As := []) (rest := []) C hml hl.1 hw (zn12 hL) rfl rfl (c_X8_thrown l D cy ad m2 H.size hL) zv_L_83 rfl rfl rfl ⟨Nat.le_of_ble_eq_true rfl, Nat.le_of_ble_eq_true rfl⟩ rfl (Nat.le_of_ble_eq_true rfl) dL_law_894 ⟨(show ((300 + 20 * n) + 2) + 0 + 0 ≤ 601024 by omega), (show ((1500 + 220 * n) + 12) + 0 + 0 ≤ 7293034 by omega)⟩) (fun r3 m3 H locs hr3 hw => ?_)
  obtain ⟨e5, e6⟩ := hr3
  rw [e6] at hw
  rw [h12] at e5
  refine lv_iload hx hb dL_law_897 (lv_at hl 1 rfl) ?_
  refine lv_icmp_eq (tgt := 904) hx hb dL_law_899 (by decide) (fun _ => ?_) (fun z => absurd e5 z)
  refine lv_iload hx hb dL_law_904 (lv_at hl 1 rfl) ?_
  have fin : W p l e room_1 (s.setDrawn d0) mi #[Value.ref b] below meth c H locs ((300 + 20 * n) + 2 + 0 + 0) (1500 + 220 * n + 12 + 0 + 0) (lw_Z below #[Value.ref b] s) (F0 mi 921 ls []) := by
    refine lv_goto (tgt := 1351) hx hb dL_law_921 (by decide) ?_
    refine W.widen (k := 300 + 20 * (n + 1)) (n := 1500 + 220 * (n + 1)) (by omega) (by omega) ?_
    exact K d0 hd0 H locs ls m2 bc1 sc1 bu1 hq1 f1 cn1 R1 hw (lv_sub hl [2, 3, 4, 5, 6] rfl)
  refine lv_if_ne (tgt := 921) hx hb dL_law_906 (by decide) (fun _ => fin) (fun z0 => ?_)
  have h14 := h14 z0
  refine lv_aload_n hx hb dL_law_909 rfl (lv_at hl 3 rfl) ?_
  refine lv_iconst (v := 0) hx hb dL_law_910 (by decide) ?_
  refine zlald C hw (zn14 hL) dL_law_911 ?_
  refine lv_iload hx hb dL_law_912 (lv_at hl 0 rfl) ?_
  refine lv_i2l hx hb dL_law_914 rfl ?_
  refine W.lcmp hx hb dL_law_915 ?_
  refine lv_if_eq (tgt := 921) hx hb dL_law_916 (by decide) (fun _ => fin) (fun z => absurd (by rw [h14]; exact lw_cmp0) z)
set_option maxHeartbeats 4000000 in
set_option maxRecDepth 100000 in
theorem lw_case_wash {p : Program} {l : Launch} {e : Env} {s : State} {mi : MethodId} {below : List Frame} {meth : Method} {c : Code} {b LX : Nat} {xs : Nat → Int32} {D : va_G} {cy : Nat → ClassId} {ad : ZN → Nat} {L : List ZN} (F : lwF l p s mi meth c b LX xs D cy ad L) {n : Nat} (hn : 4 * n + 4 ≤ LX) (K : lwK p l e s mi below meth c b D cy ad L (n + 1) n 1351) : lwK p l e s mi below meth c b D cy ad L n n 924 := by
  intro d0 hd0 H locs ls m bc sc bu hq f cn R hw hl
  obtain ⟨hst, C, E, N, hX, hbl, hbA, hAs, hr, hlocks, hml, hL, hn0, hn1, hLX⟩ := id F
  have C := zX_d0 d0 C
  have E : zE (zA ad L (s.setDrawn d0).heap.size) (s.setDrawn d0) (s.setDrawn d0).heap := zE_same (u := s) (U := s.setDrawn d0) rfl E
  have N : zNcs (s.setDrawn d0) := zNcs_to (u := s) (U := s.setDrawn d0) (Vm.Alike.refl _) N
  have hw : zH D cy ad L (s.setDrawn d0).heap H locs m := hw
  have hx := C.1
  have hb := C.2.1
  have T := tc_wash R (show n < 512 by omega) (xs (4 * n + 1)) (xs (4 * n + 2))
  unfold tDone at T
  refine lv_aload_n hx hb dL_law_924 rfl (lv_at hl 3 rfl) ?_
  refine lv_aload_n hx hb dL_law_925 rfl (lv_at hl 4 rfl) ?_
  refine lv_iload hx hb dL_law_926 (lv_at hl 0 rfl) ?_
  refine lv_iconst (v := 1) hx hb dL_law_928 (by decide) ?_
  refine lv_iadd hx hb dL_law_929 ?_
  refine lw_sld F hw (k := 4 * n + 1) (zadd (b := 1) rfl rfl) (by omega) dL_law_930 ?_
  refine lv_aload_n hx hb dL_law_931 rfl (lv_at hl 4 rfl) ?_
  refine lv_iload hx hb dL_law_932 (lv_at hl 0 rfl) ?_
  refine lv_iconst (v := 2) hx hb dL_law_934 (by decide) ?_
  refine lv_iadd hx hb dL_law_935 ?_
  refine lw_sld F hw (k := 4 * n + 2) (zadd (b := 2) rfl rfl) (by omega) dL_law_936 ?_
  refine lv_aload_n hx hb dL_law_937 rfl (lv_at hl 1 rfl) ?_
  refine zafter_iC C hw (zrunSW (As := [.ref (ad (0, 0, 0)), .int (xs (4 * n + 1)), .int (xs (4 * n + 2)), .ref (ad (14, 0, 0))]) (rest := []) C E N hml hl.1 hw (c_L_wash l hst D cy ad m H.size hL R.2.2.1.1 R.2.2.1.2.1 R.2.2.1.2.2.1 R.2.2.1.2.2.2.2.1 (xs (4 * n + 1)) (xs (4 * n + 2))) zv_L_122 rfl rfl rfl ⟨Nat.le_of_ble_eq_true rfl, Nat.le_of_ble_eq_true rfl⟩ rfl (Nat.le_of_ble_eq_true rfl) dL_law_938 ⟨(show (300 + 20 * n) + 3 ≤ 601024 by omega), (show (1500 + 220 * n) + 18 ≤ 7293034 by omega)⟩) (fun r1 m1 H locs hr1 hw => ?_)
  obtain ⟨e1, e2⟩ := hr1
  rw [← e2, ← e1] at T
  obtain ⟨G1, h12, h14, R1⟩ := T
  have h12 : (q8_wash m1 cn (xs (4 * n + 1)) (xs (4 * n + 2))).2 (12, 0, 0) 0 = r1 := h12
  have h14 : r1 = 0 → (q8_wash m1 cn (xs (4 * n + 1)) (xs (4 * n + 2))).2 (14, 0, 0) 0 = (q8_wash m1 cn (xs (4 * n + 1)) (xs (4 * n + 2))).1 := h14
  have R1 : ∃ bc1 sc1 bu1 hq1 f1 cn1, RQ (q8_wash m1 cn (xs (4 * n + 1)) (xs (4 * n + 2))).2 (q8_wash m1 cn (xs (4 * n + 1)) (xs (4 * n + 2))).2 (n + 1) bc1 sc1 bu1 hq1 f1 cn1 := R1
  refine lv_istore (lv' := (5, .int r1) :: lwl b ad (nI (4 * n))) hx hb dL_law_941 hl (by decide) rfl (fun ls hl => ?_)
  refine lv_aload_n hx hb dL_law_943 rfl (lv_at hl 3 rfl) ?_
  refine lv_aload_n hx hb dL_law_944 rfl (lv_at hl 5 rfl) ?_
  refine lv_iload hx hb dL_law_945 (lv_at hl 1 rfl) ?_
  refine lv_iconst (v := 1) hx hb dL_law_947 (by decide) ?_
  refine lv_iadd hx hb dL_law_948 ?_
  refine lw_sld F hw (k := 4 * n + 1) (zadd (b := 1) rfl rfl) (by omega) dL_law_949 ?_
  refine lv_aload_n hx hb dL_law_950 rfl (lv_at hl 5 rfl) ?_
  refine lv_iload hx hb dL_law_951 (lv_at hl 1 rfl) ?_
  refine lv_iconst (v := 2) hx hb dL_law_953 (by decide) ?_
  refine lv_iadd hx hb dL_law_954 ?_
  refine lw_sld F hw (k := 4 * n + 2) (zadd (b := 2) rfl rfl) (by omega) dL_law_955 ?_
  refine zafter_iC C hw (zrunV (As := [.int (xs (4 * n + 1)), .int (xs (4 * n + 2))]) (rest := []) C hml hl.1 hw (zn12 hL) rfl rfl (c_X8_wash l D cy ad m1 H.size hL G1 (xs (4 * n + 1)) (xs (4 * n + 2))) zv_L_124 rfl rfl rfl ⟨Nat.le_of_ble_eq_true rfl, Nat.le_of_ble_eq_true rfl⟩ rfl (Nat.le_of_ble_eq_true rfl) dL_law_956 ⟨(show (300 + 20 * n) + 3 + 0 ≤ 601024 by omega), (show (1500 + 220 * n) + 18 + 0 ≤ 7293034 by omega)⟩) (fun r2 m2 H locs hr2 hw => ?_)
  obtain ⟨e3, e4⟩ := hr2
  rw [← e4] at h12 R1
  rw [← e4, ← e3] at h14
  obtain ⟨bc1, sc1, bu1, hq1, f1, cn1, R1⟩ := R1
  refine lv_istore (lv' := (6, .int r2) :: (5, .int r1) :: lwl b ad (nI (4 * n))) hx hb dL_law_959 hl (by decide) rfl (fun ls hl => ?_)
  refine lv_aload_n hx hb dL_law_961 rfl (lv_at hl 4 rfl) ?_
  refine zafter_iC C hw (zrunV (As := []) (rest := []) C hml hl.1 hw (zn12 hL) rfl rfl (c_X8_thrown l D cy ad m2 H.size hL) zv_L_83 rfl rfl rfl ⟨Nat.le_of_ble_eq_true rfl, Nat.le_of_ble_eq_true rfl⟩ rfl (Nat.le_of_ble_eq_true rfl) dL_law_962 ⟨(show ((300 + 20 * n) + 3) + 0 + 0 ≤ 601024 by omega), (show ((1500 + 220 * n) + 18) + 0 + 0 ≤ 7293034 by omega)⟩) (fun r3 m3 H locs hr3 hw => ?_)
  obtain ⟨e5, e6⟩ := hr3
  rw [e6] at hw
  rw [h12] at e5
  refine lv_iload hx hb dL_law_965 (lv_at hl 1 rfl) ?_
  refine lv_icmp_eq (tgt := 972) hx hb dL_law_967 (by decide) (fun _ => ?_) (fun z => absurd e5 z)
  refine lv_iload hx hb dL_law_972 (lv_at hl 1 rfl) ?_
  have fin : W p l e room_1 (s.setDrawn d0) mi #[Value.ref b] below meth c H locs ((300 + 20 * n) + 3 + 0 + 0) (1500 + 220 * n + 18 + 0 + 0) (lw_Z below #[Value.ref b] s) (F0 mi 989 ls []) := by
    refine lv_goto (tgt := 1351) hx hb dL_law_989 (by decide) ?_
    refine W.widen (k := 300 + 20 * (n + 1)) (n := 1500 + 220 * (n + 1)) (by omega) (by omega) ?_
    exact K d0 hd0 H locs ls m2 bc1 sc1 bu1 hq1 f1 cn1 R1 hw (lv_sub hl [2, 3, 4, 5, 6] rfl)
  refine lv_if_ne (tgt := 989) hx hb dL_law_974 (by decide) (fun _ => fin) (fun z0 => ?_)
  have h14 := h14 z0
  refine lv_aload_n hx hb dL_law_977 rfl (lv_at hl 3 rfl) ?_
  refine lv_iconst (v := 0) hx hb dL_law_978 (by decide) ?_
  refine zlald C hw (zn14 hL) dL_law_979 ?_
  refine lv_iload hx hb dL_law_980 (lv_at hl 0 rfl) ?_
  refine lv_i2l hx hb dL_law_982 rfl ?_
  refine W.lcmp hx hb dL_law_983 ?_
  refine lv_if_eq (tgt := 989) hx hb dL_law_984 (by decide) (fun _ => fin) (fun z => absurd (by rw [h14]; exact lw_cmp0) z)
set_option maxHeartbeats 4000000 in
set_option maxRecDepth 100000 in
theorem lw_case_again {p : Program} {l : Launch} {e : Env} {s : State} {mi : MethodId} {below : List Frame} {meth : Method} {c : Code} {b LX : Nat} {xs : Nat → Int32} {D : va_G} {cy : Nat → ClassId} {ad : ZN → Nat} {L : List ZN} (F : lwF l p s mi meth c b LX xs D cy ad L) {n : Nat} (hn : 4 * n + 4 ≤ LX) (K : lwK p l e s mi below meth c b D cy ad L (n + 1) n 1351) : lwK p l e s mi below meth c b D cy ad L n n 992 := by
  intro d0 hd0 H locs ls m bc sc bu hq f cn R hw hl
  obtain ⟨hst, C, E, N, hX, hbl, hbA, hAs, hr, hlocks, hml, hL, hn0, hn1, hLX⟩ := id F
  have C := zX_d0 d0 C
  have E : zE (zA ad L (s.setDrawn d0).heap.size) (s.setDrawn d0) (s.setDrawn d0).heap := zE_same (u := s) (U := s.setDrawn d0) rfl E
  have N : zNcs (s.setDrawn d0) := zNcs_to (u := s) (U := s.setDrawn d0) (Vm.Alike.refl _) N
  have hw : zH D cy ad L (s.setDrawn d0).heap H locs m := hw
  have hx := C.1
  have hb := C.2.1
  have T := tc_again R (show n < 512 by omega) (xs (4 * n + 1))
  unfold tDone at T
  refine lv_aload_n hx hb dL_law_992 rfl (lv_at hl 3 rfl) ?_
  refine lv_aload_n hx hb dL_law_993 rfl (lv_at hl 4 rfl) ?_
  refine lv_iload hx hb dL_law_994 (lv_at hl 0 rfl) ?_
  refine lv_iconst (v := 1) hx hb dL_law_996 (by decide) ?_
  refine lv_iadd hx hb dL_law_997 ?_
  refine lw_sld F hw (k := 4 * n + 1) (zadd (b := 1) rfl rfl) (by omega) dL_law_998 ?_
  refine lv_aload_n hx hb dL_law_999 rfl (lv_at hl 1 rfl) ?_
  refine zafter_iC C hw (zrunSW (As := [.ref (ad (0, 0, 0)), .int (xs (4 * n + 1)), .ref (ad (14, 0, 0))]) (rest := []) C E N hml hl.1 hw (c_L_again l hst D cy ad m H.size hL (xs (4 * n + 1))) zv_L_125 rfl rfl rfl ⟨Nat.le_of_ble_eq_true rfl, Nat.le_of_ble_eq_true rfl⟩ rfl (Nat.le_of_ble_eq_true rfl) dL_law_1000 ⟨(show (300 + 20 * n) + 1 ≤ 601024 by omega), (show (1500 + 220 * n) + 6 ≤ 7293034 by omega)⟩) (fun r1 m1 H locs hr1 hw => ?_)
  obtain ⟨e1, e2⟩ := hr1
  rw [← e2, ← e1] at T
  obtain ⟨G1, h12, h14, R1⟩ := T
  have h12 : (q8_again m1 (xs (4 * n + 1))).2 (12, 0, 0) 0 = r1 := h12
  have h14 : r1 = 0 → (q8_again m1 (xs (4 * n + 1))).2 (14, 0, 0) 0 = (q8_again m1 (xs (4 * n + 1))).1 := h14
  have R1 : ∃ bc1 sc1 bu1 hq1 f1 cn1, RQ (q8_again m1 (xs (4 * n + 1))).2 (q8_again m1 (xs (4 * n + 1))).2 (n + 1) bc1 sc1 bu1 hq1 f1 cn1 := R1
  refine lv_istore (lv' := (5, .int r1) :: lwl b ad (nI (4 * n))) hx hb dL_law_1003 hl (by decide) rfl (fun ls hl => ?_)
  refine lv_aload_n hx hb dL_law_1005 rfl (lv_at hl 3 rfl) ?_
  refine lv_aload_n hx hb dL_law_1006 rfl (lv_at hl 5 rfl) ?_
  refine lv_iload hx hb dL_law_1007 (lv_at hl 1 rfl) ?_
  refine lv_iconst (v := 1) hx hb dL_law_1009 (by decide) ?_
  refine lv_iadd hx hb dL_law_1010 ?_
  refine lw_sld F hw (k := 4 * n + 1) (zadd (b := 1) rfl rfl) (by omega) dL_law_1011 ?_
  refine zafter_iC C hw (zrunV (As := [.int (xs (4 * n + 1))]) (rest := []) C hml hl.1 hw (zn12 hL) rfl rfl (c_X8_again l D cy ad m1 H.size hL (xs (4 * n + 1))) zv_L_127 rfl rfl rfl ⟨Nat.le_of_ble_eq_true rfl, Nat.le_of_ble_eq_true rfl⟩ rfl (Nat.le_of_ble_eq_true rfl) dL_law_1012 ⟨(show (300 + 20 * n) + 1 + 0 ≤ 601024 by omega), (show (1500 + 220 * n) + 6 + 0 ≤ 7293034 by omega)⟩) (fun r2 m2 H locs hr2 hw => ?_)
  obtain ⟨e3, e4⟩ := hr2
  rw [← e4] at h12 R1
  rw [← e4, ← e3] at h14
  obtain ⟨bc1, sc1, bu1, hq1, f1, cn1, R1⟩ := R1
  refine lv_istore (lv' := (6, .int r2) :: (5, .int r1) :: lwl b ad (nI (4 * n))) hx hb dL_law_1015 hl (by decide) rfl (fun ls hl => ?_)
  refine lv_aload_n hx hb dL_law_1017 rfl (lv_at hl 4 rfl) ?_
  refine zafter_iC C hw (zrunV (As := []) (rest := []) C hml hl.1 hw (zn12 hL) rfl rfl (c_X8_thrown l D cy ad m2 H.size hL) zv_L_83 rfl rfl rfl ⟨Nat.le_of_ble_eq_true rfl, Nat.le_of_ble_eq_true rfl⟩ rfl (Nat.le_of_ble_eq_true rfl) dL_law_1018 ⟨(show ((300 + 20 * n) + 1) + 0 + 0 ≤ 601024 by omega), (show ((1500 + 220 * n) + 6) + 0 + 0 ≤ 7293034 by omega)⟩) (fun r3 m3 H locs hr3 hw => ?_)
  obtain ⟨e5, e6⟩ := hr3
  rw [e6] at hw
  rw [h12] at e5
  refine lv_iload hx hb dL_law_1021 (lv_at hl 1 rfl) ?_
  refine lv_icmp_eq (tgt := 1028) hx hb dL_law_1023 (by decide) (fun _ => ?_) (fun z => absurd e5 z)
  refine lv_iload hx hb dL_law_1028 (lv_at hl 1 rfl) ?_
  have fin : W p l e room_1 (s.setDrawn d0) mi #[Value.ref b] below meth c H locs ((300 + 20 * n) + 1 + 0 + 0) (1500 + 220 * n + 6 + 0 + 0) (lw_Z below #[Value.ref b] s) (F0 mi 1045 ls []) := by
    refine lv_goto (tgt := 1351) hx hb dL_law_1045 (by decide) ?_
    refine W.widen (k := 300 + 20 * (n + 1)) (n := 1500 + 220 * (n + 1)) (by omega) (by omega) ?_
    exact K d0 hd0 H locs ls m2 bc1 sc1 bu1 hq1 f1 cn1 R1 hw (lv_sub hl [2, 3, 4, 5, 6] rfl)
  refine lv_if_ne (tgt := 1045) hx hb dL_law_1030 (by decide) (fun _ => fin) (fun z0 => ?_)
  have h14 := h14 z0
  refine lv_aload_n hx hb dL_law_1033 rfl (lv_at hl 3 rfl) ?_
  refine lv_iconst (v := 0) hx hb dL_law_1034 (by decide) ?_
  refine zlald C hw (zn14 hL) dL_law_1035 ?_
  refine lv_iload hx hb dL_law_1036 (lv_at hl 0 rfl) ?_
  refine lv_i2l hx hb dL_law_1038 rfl ?_
  refine W.lcmp hx hb dL_law_1039 ?_
  refine lv_if_eq (tgt := 1045) hx hb dL_law_1040 (by decide) (fun _ => fin) (fun z => absurd (by rw [h14]; exact lw_cmp0) z)
set_option maxHeartbeats 4000000 in
set_option maxRecDepth 100000 in
theorem lw_case_smelt {p : Program} {l : Launch} {e : Env} {s : State} {mi : MethodId} {below : List Frame} {meth : Method} {c : Code} {b LX : Nat} {xs : Nat → Int32} {D : va_G} {cy : Nat → ClassId} {ad : ZN → Nat} {L : List ZN} (F : lwF l p s mi meth c b LX xs D cy ad L) {n : Nat} (hn : 4 * n + 4 ≤ LX) (K : lwK p l e s mi below meth c b D cy ad L (n + 1) n 1351) : lwK p l e s mi below meth c b D cy ad L n n 1048 := by
  intro d0 hd0 H locs ls m bc sc bu hq f cn R hw hl
  obtain ⟨hst, C, E, N, hX, hbl, hbA, hAs, hr, hlocks, hml, hL, hn0, hn1, hLX⟩ := id F
  have C := zX_d0 d0 C
  have E : zE (zA ad L (s.setDrawn d0).heap.size) (s.setDrawn d0) (s.setDrawn d0).heap := zE_same (u := s) (U := s.setDrawn d0) rfl E
  have N : zNcs (s.setDrawn d0) := zNcs_to (u := s) (U := s.setDrawn d0) (Vm.Alike.refl _) N
  have hw : zH D cy ad L (s.setDrawn d0).heap H locs m := hw
  have hx := C.1
  have hb := C.2.1
  have T := tc_smelt R (show n < 512 by omega) (xs (4 * n + 1))
  unfold tDone at T
  refine lv_aload_n hx hb dL_law_1048 rfl (lv_at hl 3 rfl) ?_
  refine lv_aload_n hx hb dL_law_1049 rfl (lv_at hl 4 rfl) ?_
  refine lv_iload hx hb dL_law_1050 (lv_at hl 0 rfl) ?_
  refine lv_iconst (v := 1) hx hb dL_law_1052 (by decide) ?_
  refine lv_iadd hx hb dL_law_1053 ?_
  refine lw_sld F hw (k := 4 * n + 1) (zadd (b := 1) rfl rfl) (by omega) dL_law_1054 ?_
  refine lv_aload_n hx hb dL_law_1055 rfl (lv_at hl 1 rfl) ?_
  refine zafter_iC C hw (zrunSW (As := [.ref (ad (0, 0, 0)), .int (xs (4 * n + 1)), .ref (ad (14, 0, 0))]) (rest := []) C E N hml hl.1 hw (c_L_smelt l hst D cy ad m H.size hL (xs (4 * n + 1))) zv_L_128 rfl rfl rfl ⟨Nat.le_of_ble_eq_true rfl, Nat.le_of_ble_eq_true rfl⟩ rfl (Nat.le_of_ble_eq_true rfl) dL_law_1056 ⟨(show (300 + 20 * n) + 1 ≤ 601024 by omega), (show (1500 + 220 * n) + 6 ≤ 7293034 by omega)⟩) (fun r1 m1 H locs hr1 hw => ?_)
  obtain ⟨e1, e2⟩ := hr1
  rw [← e2, ← e1] at T
  obtain ⟨G1, h12, h14, R1⟩ := T
  have h12 : (q8_smelt m1 (xs (4 * n + 1))).2 (12, 0, 0) 0 = r1 := h12
  have h14 : r1 = 0 → (q8_smelt m1 (xs (4 * n + 1))).2 (14, 0, 0) 0 = (q8_smelt m1 (xs (4 * n + 1))).1 := h14
  have R1 : ∃ bc1 sc1 bu1 hq1 f1 cn1, RQ (q8_smelt m1 (xs (4 * n + 1))).2 (q8_smelt m1 (xs (4 * n + 1))).2 (n + 1) bc1 sc1 bu1 hq1 f1 cn1 := R1
  refine lv_istore (lv' := (5, .int r1) :: lwl b ad (nI (4 * n))) hx hb dL_law_1059 hl (by decide) rfl (fun ls hl => ?_)
  refine lv_aload_n hx hb dL_law_1061 rfl (lv_at hl 3 rfl) ?_
  refine lv_aload_n hx hb dL_law_1062 rfl (lv_at hl 5 rfl) ?_
  refine lv_iload hx hb dL_law_1063 (lv_at hl 1 rfl) ?_
  refine lv_iconst (v := 1) hx hb dL_law_1065 (by decide) ?_
  refine lv_iadd hx hb dL_law_1066 ?_
  refine lw_sld F hw (k := 4 * n + 1) (zadd (b := 1) rfl rfl) (by omega) dL_law_1067 ?_
  refine zafter_iC C hw (zrunV (As := [.int (xs (4 * n + 1))]) (rest := []) C hml hl.1 hw (zn12 hL) rfl rfl (c_X8_smelt l D cy ad m1 H.size hL hn1 (xs (4 * n + 1))) zv_L_130 rfl rfl rfl ⟨Nat.le_of_ble_eq_true rfl, Nat.le_of_ble_eq_true rfl⟩ rfl (Nat.le_of_ble_eq_true rfl) dL_law_1068 ⟨(show (300 + 20 * n) + 1 + 1 ≤ 601024 by omega), (show (1500 + 220 * n) + 6 + 2 ≤ 7293034 by omega)⟩) (fun r2 m2 H locs hr2 hw => ?_)
  obtain ⟨e3, e4⟩ := hr2
  rw [← e4] at h12 R1
  rw [← e4, ← e3] at h14
  obtain ⟨bc1, sc1, bu1, hq1, f1, cn1, R1⟩ := R1
  refine lv_istore (lv' := (6, .int r2) :: (5, .int r1) :: lwl b ad (nI (4 * n))) hx hb dL_law_1071 hl (by decide) rfl (fun ls hl => ?_)
  refine lv_aload_n hx hb dL_law_1073 rfl (lv_at hl 4 rfl) ?_
  refine zafter_iC C hw (zrunV (As := []) (rest := []) C hml hl.1 hw (zn12 hL) rfl rfl (c_X8_thrown l D cy ad m2 H.size hL) zv_L_83 rfl rfl rfl ⟨Nat.le_of_ble_eq_true rfl, Nat.le_of_ble_eq_true rfl⟩ rfl (Nat.le_of_ble_eq_true rfl) dL_law_1074 ⟨(show ((300 + 20 * n) + 1) + 1 + 0 ≤ 601024 by omega), (show ((1500 + 220 * n) + 6) + 2 + 0 ≤ 7293034 by omega)⟩) (fun r3 m3 H locs hr3 hw => ?_)
  obtain ⟨e5, e6⟩ := hr3
  rw [e6] at hw
  rw [h12] at e5
  refine lv_iload hx hb dL_law_1077 (lv_at hl 1 rfl) ?_
  refine lv_icmp_eq (tgt := 1084) hx hb dL_law_1079 (by decide) (fun _ => ?_) (fun z => absurd e5 z)
  refine lv_iload hx hb dL_law_1084 (lv_at hl 1 rfl) ?_
  have fin : W p l e room_1 (s.setDrawn d0) mi #[Value.ref b] below meth c H locs ((300 + 20 * n) + 1 + 1 + 0) (1500 + 220 * n + 6 + 2 + 0) (lw_Z below #[Value.ref b] s) (F0 mi 1101 ls []) := by
    refine lv_goto (tgt := 1351) hx hb dL_law_1101 (by decide) ?_
    refine W.widen (k := 300 + 20 * (n + 1)) (n := 1500 + 220 * (n + 1)) (by omega) (by omega) ?_
    exact K d0 hd0 H locs ls m2 bc1 sc1 bu1 hq1 f1 cn1 R1 hw (lv_sub hl [2, 3, 4, 5, 6] rfl)
  refine lv_if_ne (tgt := 1101) hx hb dL_law_1086 (by decide) (fun _ => fin) (fun z0 => ?_)
  have h14 := h14 z0
  refine lv_aload_n hx hb dL_law_1089 rfl (lv_at hl 3 rfl) ?_
  refine lv_iconst (v := 0) hx hb dL_law_1090 (by decide) ?_
  refine zlald C hw (zn14 hL) dL_law_1091 ?_
  refine lv_iload hx hb dL_law_1092 (lv_at hl 0 rfl) ?_
  refine lv_i2l hx hb dL_law_1094 rfl ?_
  refine W.lcmp hx hb dL_law_1095 ?_
  refine lv_if_eq (tgt := 1101) hx hb dL_law_1096 (by decide) (fun _ => fin) (fun z => absurd (by rw [h14]; exact lw_cmp0) z)
set_option maxHeartbeats 4000000 in
set_option maxRecDepth 100000 in
theorem lw_case_foresee {p : Program} {l : Launch} {e : Env} {s : State} {mi : MethodId} {below : List Frame} {meth : Method} {c : Code} {b LX : Nat} {xs : Nat → Int32} {D : va_G} {cy : Nat → ClassId} {ad : ZN → Nat} {L : List ZN} (F : lwF l p s mi meth c b LX xs D cy ad L) {n : Nat} (hn : 4 * n + 4 ≤ LX) (K : lwK p l e s mi below meth c b D cy ad L (n + 1) n 1351) : lwK p l e s mi below meth c b D cy ad L n n 1104 := by
  intro d0 hd0 H locs ls m bc sc bu hq f cn R hw hl
  obtain ⟨hst, C, E, N, hX, hbl, hbA, hAs, hr, hlocks, hml, hL, hn0, hn1, hLX⟩ := id F
  have C := zX_d0 d0 C
  have E : zE (zA ad L (s.setDrawn d0).heap.size) (s.setDrawn d0) (s.setDrawn d0).heap := zE_same (u := s) (U := s.setDrawn d0) rfl E
  have N : zNcs (s.setDrawn d0) := zNcs_to (u := s) (U := s.setDrawn d0) (Vm.Alike.refl _) N
  have hw : zH D cy ad L (s.setDrawn d0).heap H locs m := hw
  have hx := C.1
  have hb := C.2.1
  have T := tc_foresee R (show n < 512 by omega) (xs (4 * n + 1)) (xs (4 * n + 2))
  unfold tDone at T
  refine lv_aload_n hx hb dL_law_1104 rfl (lv_at hl 3 rfl) ?_
  refine lv_aload_n hx hb dL_law_1105 rfl (lv_at hl 4 rfl) ?_
  refine lv_iload hx hb dL_law_1106 (lv_at hl 0 rfl) ?_
  refine lv_iconst (v := 1) hx hb dL_law_1108 (by decide) ?_
  refine lv_iadd hx hb dL_law_1109 ?_
  refine lw_sld F hw (k := 4 * n + 1) (zadd (b := 1) rfl rfl) (by omega) dL_law_1110 ?_
  refine lv_aload_n hx hb dL_law_1111 rfl (lv_at hl 4 rfl) ?_
  refine lv_iload hx hb dL_law_1112 (lv_at hl 0 rfl) ?_
  refine lv_iconst (v := 2) hx hb dL_law_1114 (by decide) ?_
  refine lv_iadd hx hb dL_law_1115 ?_
  refine lw_sld F hw (k := 4 * n + 2) (zadd (b := 2) rfl rfl) (by omega) dL_law_1116 ?_
  refine lv_aload_n hx hb dL_law_1117 rfl (lv_at hl 1 rfl) ?_
  refine zafter_iC C hw (zrunSW (As := [.ref (ad (0, 0, 0)), .int (xs (4 * n + 1)), .int (xs (4 * n + 2)), .ref (ad (14, 0, 0))]) (rest := []) C E N hml hl.1 hw (c_L_foresee l hst D cy ad m H.size hL (RQ_gW R) R.2.2.1.1 R.2.2.1.2.1 R.2.2.1.2.2.1 R.2.2.1.2.2.2.2.1 R.2.2.2.2.2.2 R.1 (xs (4 * n + 1)) (xs (4 * n + 2))) zv_L_131 rfl rfl rfl ⟨Nat.le_of_ble_eq_true rfl, Nat.le_of_ble_eq_true rfl⟩ rfl (Nat.le_of_ble_eq_true rfl) dL_law_1118 ⟨(show (300 + 20 * n) + 3 ≤ 601024 by omega), (show (1500 + 220 * n) + 18 ≤ 7293034 by omega)⟩) (fun r1 m1 H locs hr1 hw => ?_)
  obtain ⟨e1, e2⟩ := hr1
  rw [← e2, ← e1] at T
  obtain ⟨G1, h12, h14, R1⟩ := T
  have h12 : (q8_foresee m1 bc sc bu hq (xs (4 * n + 1)) (xs (4 * n + 2))).2 (12, 0, 0) 0 = r1 := h12
  have h14 : r1 = 0 → (q8_foresee m1 bc sc bu hq (xs (4 * n + 1)) (xs (4 * n + 2))).2 (14, 0, 0) 0 = (q8_foresee m1 bc sc bu hq (xs (4 * n + 1)) (xs (4 * n + 2))).1 := h14
  have R1 : ∃ bc1 sc1 bu1 hq1 f1 cn1, RQ (q8_foresee m1 bc sc bu hq (xs (4 * n + 1)) (xs (4 * n + 2))).2 (q8_foresee m1 bc sc bu hq (xs (4 * n + 1)) (xs (4 * n + 2))).2 (n + 1) bc1 sc1 bu1 hq1 f1 cn1 := R1
  refine lv_istore (lv' := (5, .int r1) :: lwl b ad (nI (4 * n))) hx hb dL_law_1121 hl (by decide) rfl (fun ls hl => ?_)
  refine lv_aload_n hx hb dL_law_1123 rfl (lv_at hl 3 rfl) ?_
  refine lv_aload_n hx hb dL_law_1124 rfl (lv_at hl 5 rfl) ?_
  refine lv_iload hx hb dL_law_1125 (lv_at hl 1 rfl) ?_
  refine lv_iconst (v := 1) hx hb dL_law_1127 (by decide) ?_
  refine lv_iadd hx hb dL_law_1128 ?_
  refine lw_sld F hw (k := 4 * n + 1) (zadd (b := 1) rfl rfl) (by omega) dL_law_1129 ?_
  refine lv_aload_n hx hb dL_law_1130 rfl (lv_at hl 5 rfl) ?_
  refine lv_iload hx hb dL_law_1131 (lv_at hl 1 rfl) ?_
  refine lv_iconst (v := 2) hx hb dL_law_1133 (by decide) ?_
  refine lv_iadd hx hb dL_law_1134 ?_
  refine lw_sld F hw (k := 4 * n + 2) (zadd (b := 2) rfl rfl) (by omega) dL_law_1135 ?_
  refine zafter_iC C hw (zrunV (As := [.int (xs (4 * n + 1)), .int (xs (4 * n + 2))]) (rest := []) C hml hl.1 hw (zn12 hL) rfl rfl (c_X8_foresee l D cy ad m1 H.size hL G1 R.1 (xs (4 * n + 1)) (xs (4 * n + 2))) zv_L_133 rfl rfl rfl ⟨Nat.le_of_ble_eq_true rfl, Nat.le_of_ble_eq_true rfl⟩ rfl (Nat.le_of_ble_eq_true rfl) dL_law_1136 ⟨(show (300 + 20 * n) + 3 + 0 ≤ 601024 by omega), (show (1500 + 220 * n) + 18 + 0 ≤ 7293034 by omega)⟩) (fun r2 m2 H locs hr2 hw => ?_)
  obtain ⟨e3, e4⟩ := hr2
  rw [← e4] at h12 R1
  rw [← e4, ← e3] at h14
  obtain ⟨bc1, sc1, bu1, hq1, f1, cn1, R1⟩ := R1
  refine lv_istore (lv' := (6, .int r2) :: (5, .int r1) :: lwl b ad (nI (4 * n))) hx hb dL_law_1139 hl (by decide) rfl (fun ls hl => ?_)
  refine lv_aload_n hx hb dL_law_1141 rfl (lv_at hl 4 rfl) ?_
  refine zafter_iC C hw (zrunV (As := []) (rest := []) C hml hl.1 hw (zn12 hL) rfl rfl (c_X8_thrown l D cy ad m2 H.size hL) zv_L_83 rfl rfl rfl ⟨Nat.le_of_ble_eq_true rfl, Nat.le_of_ble_eq_true rfl⟩ rfl (Nat.le_of_ble_eq_true rfl) dL_law_1142 ⟨(show ((300 + 20 * n) + 3) + 0 + 0 ≤ 601024 by omega), (show ((1500 + 220 * n) + 18) + 0 + 0 ≤ 7293034 by omega)⟩) (fun r3 m3 H locs hr3 hw => ?_)
  obtain ⟨e5, e6⟩ := hr3
  rw [e6] at hw
  rw [h12] at e5
  refine lv_iload hx hb dL_law_1145 (lv_at hl 1 rfl) ?_
  refine lv_icmp_eq (tgt := 1152) hx hb dL_law_1147 (by decide) (fun _ => ?_) (fun z => absurd e5 z)
  refine lv_iload hx hb dL_law_1152 (lv_at hl 1 rfl) ?_
  have fin : W p l e room_1 (s.setDrawn d0) mi #[Value.ref b] below meth c H locs ((300 + 20 * n) + 3 + 0 + 0) (1500 + 220 * n + 18 + 0 + 0) (lw_Z below #[Value.ref b] s) (F0 mi 1169 ls []) := by
    refine lv_goto (tgt := 1351) hx hb dL_law_1169 (by decide) ?_
    refine W.widen (k := 300 + 20 * (n + 1)) (n := 1500 + 220 * (n + 1)) (by omega) (by omega) ?_
    exact K d0 hd0 H locs ls m2 bc1 sc1 bu1 hq1 f1 cn1 R1 hw (lv_sub hl [2, 3, 4, 5, 6] rfl)
  refine lv_if_ne (tgt := 1169) hx hb dL_law_1154 (by decide) (fun _ => fin) (fun z0 => ?_)
  have h14 := h14 z0
  refine lv_aload_n hx hb dL_law_1157 rfl (lv_at hl 3 rfl) ?_
  refine lv_iconst (v := 0) hx hb dL_law_1158 (by decide) ?_
  refine zlald C hw (zn14 hL) dL_law_1159 ?_
  refine lv_iload hx hb dL_law_1160 (lv_at hl 0 rfl) ?_
  refine lv_i2l hx hb dL_law_1162 rfl ?_
  refine W.lcmp hx hb dL_law_1163 ?_
  refine lv_if_eq (tgt := 1169) hx hb dL_law_1164 (by decide) (fun _ => fin) (fun z => absurd (by rw [h14]; exact lw_cmp0) z)
set_option maxHeartbeats 4000000 in
set_option maxRecDepth 100000 in
theorem lw_case_advise {p : Program} {l : Launch} {e : Env} {s : State} {mi : MethodId} {below : List Frame} {meth : Method} {c : Code} {b LX : Nat} {xs : Nat → Int32} {D : va_G} {cy : Nat → ClassId} {ad : ZN → Nat} {L : List ZN} (F : lwF l p s mi meth c b LX xs D cy ad L) {n : Nat} (hn : 4 * n + 4 ≤ LX) (K : lwK p l e s mi below meth c b D cy ad L (n + 1) n 1351) : lwK p l e s mi below meth c b D cy ad L n n 1172 := by
  intro d0 hd0 H locs ls m bc sc bu hq f cn R hw hl
  obtain ⟨hst, C, E, N, hX, hbl, hbA, hAs, hr, hlocks, hml, hL, hn0, hn1, hLX⟩ := id F
  have C := zX_d0 d0 C
  have E : zE (zA ad L (s.setDrawn d0).heap.size) (s.setDrawn d0) (s.setDrawn d0).heap := zE_same (u := s) (U := s.setDrawn d0) rfl E
  have N : zNcs (s.setDrawn d0) := zNcs_to (u := s) (U := s.setDrawn d0) (Vm.Alike.refl _) N
  have hw : zH D cy ad L (s.setDrawn d0).heap H locs m := hw
  have hx := C.1
  have hb := C.2.1
  have T := tc_advise R (show n < 512 by omega) (xs (4 * n + 1))
  unfold tDone at T
  refine lv_aload_n hx hb dL_law_1172 rfl (lv_at hl 3 rfl) ?_
  refine lv_aload_n hx hb dL_law_1173 rfl (lv_at hl 4 rfl) ?_
  refine lv_iload hx hb dL_law_1174 (lv_at hl 0 rfl) ?_
  refine lv_iconst (v := 1) hx hb dL_law_1176 (by decide) ?_
  refine lv_iadd hx hb dL_law_1177 ?_
  refine lw_sld F hw (k := 4 * n + 1) (zadd (b := 1) rfl rfl) (by omega) dL_law_1178 ?_
  refine lv_aload_n hx hb dL_law_1179 rfl (lv_at hl 1 rfl) ?_
  refine zafter_iC C hw (zrunSW (As := [.ref (ad (0, 0, 0)), .int (xs (4 * n + 1)), .ref (ad (14, 0, 0))]) (rest := []) C E N hml hl.1 hw (c_L_advise l hst D cy ad m H.size hL (RQ_gW R) R.2.2.1.1 R.2.2.1.2.1 R.2.2.1.2.2.1 R.2.2.1.2.2.2.2.1 R.2.2.2.2.2.2 R.1 (xs (4 * n + 1))) zv_L_134 rfl rfl rfl ⟨Nat.le_of_ble_eq_true rfl, Nat.le_of_ble_eq_true rfl⟩ rfl (Nat.le_of_ble_eq_true rfl) dL_law_1180 ⟨(show (300 + 20 * n) + 2 ≤ 601024 by omega), (show (1500 + 220 * n) + 12 ≤ 7293034 by omega)⟩) (fun r1 m1 H locs hr1 hw => ?_)
  obtain ⟨e1, e2⟩ := hr1
  rw [← e2, ← e1] at T
  obtain ⟨G1, h12, h14, R1⟩ := T
  have h12 : (q8_advise m1 bc sc bu hq (xs (4 * n + 1))).2 (12, 0, 0) 0 = r1 := h12
  have h14 : r1 = 0 → (q8_advise m1 bc sc bu hq (xs (4 * n + 1))).2 (14, 0, 0) 0 = (q8_advise m1 bc sc bu hq (xs (4 * n + 1))).1 := h14
  have R1 : ∃ bc1 sc1 bu1 hq1 f1 cn1, RQ (q8_advise m1 bc sc bu hq (xs (4 * n + 1))).2 (q8_advise m1 bc sc bu hq (xs (4 * n + 1))).2 (n + 1) bc1 sc1 bu1 hq1 f1 cn1 := R1
  refine lv_istore (lv' := (5, .int r1) :: lwl b ad (nI (4 * n))) hx hb dL_law_1183 hl (by decide) rfl (fun ls hl => ?_)
  refine lv_aload_n hx hb dL_law_1185 rfl (lv_at hl 3 rfl) ?_
  refine lv_aload_n hx hb dL_law_1186 rfl (lv_at hl 5 rfl) ?_
  refine lv_iload hx hb dL_law_1187 (lv_at hl 1 rfl) ?_
  refine lv_iconst (v := 1) hx hb dL_law_1189 (by decide) ?_
  refine lv_iadd hx hb dL_law_1190 ?_
  refine lw_sld F hw (k := 4 * n + 1) (zadd (b := 1) rfl rfl) (by omega) dL_law_1191 ?_
  refine zafter_iC C hw (zrunV (As := [.int (xs (4 * n + 1))]) (rest := []) C hml hl.1 hw (zn12 hL) rfl rfl (c_X8_advise l D cy ad m1 H.size hL G1 R.1 (xs (4 * n + 1))) zv_L_136 rfl rfl rfl ⟨Nat.le_of_ble_eq_true rfl, Nat.le_of_ble_eq_true rfl⟩ rfl (Nat.le_of_ble_eq_true rfl) dL_law_1192 ⟨(show (300 + 20 * n) + 2 + 0 ≤ 601024 by omega), (show (1500 + 220 * n) + 12 + 0 ≤ 7293034 by omega)⟩) (fun r2 m2 H locs hr2 hw => ?_)
  obtain ⟨e3, e4⟩ := hr2
  rw [← e4] at h12 R1
  rw [← e4, ← e3] at h14
  obtain ⟨bc1, sc1, bu1, hq1, f1, cn1, R1⟩ := R1
  refine lv_istore (lv' := (6, .int r2) :: (5, .int r1) :: lwl b ad (nI (4 * n))) hx hb dL_law_1195 hl (by decide) rfl (fun ls hl => ?_)
  refine lv_aload_n hx hb dL_law_1197 rfl (lv_at hl 4 rfl) ?_
  refine zafter_iC C hw (zrunV (As := []) (rest := []) C hml hl.1 hw (zn12 hL) rfl rfl (c_X8_thrown l D cy ad m2 H.size hL) zv_L_83 rfl rfl rfl ⟨Nat.le_of_ble_eq_true rfl, Nat.le_of_ble_eq_true rfl⟩ rfl (Nat.le_of_ble_eq_true rfl) dL_law_1198 ⟨(show ((300 + 20 * n) + 2) + 0 + 0 ≤ 601024 by omega), (show ((1500 + 220 * n) + 12) + 0 + 0 ≤ 7293034 by omega)⟩) (fun r3 m3 H locs hr3 hw => ?_)
  obtain ⟨e5, e6⟩ := hr3
  rw [e6] at hw
  rw [h12] at e5
  refine lv_iload hx hb dL_law_1201 (lv_at hl 1 rfl) ?_
  refine lv_icmp_eq (tgt := 1208) hx hb dL_law_1203 (by decide) (fun _ => ?_) (fun z => absurd e5 z)
  refine lv_iload hx hb dL_law_1208 (lv_at hl 1 rfl) ?_
  have fin : W p l e room_1 (s.setDrawn d0) mi #[Value.ref b] below meth c H locs ((300 + 20 * n) + 2 + 0 + 0) (1500 + 220 * n + 12 + 0 + 0) (lw_Z below #[Value.ref b] s) (F0 mi 1225 ls []) := by
    refine lv_goto (tgt := 1351) hx hb dL_law_1225 (by decide) ?_
    refine W.widen (k := 300 + 20 * (n + 1)) (n := 1500 + 220 * (n + 1)) (by omega) (by omega) ?_
    exact K d0 hd0 H locs ls m2 bc1 sc1 bu1 hq1 f1 cn1 R1 hw (lv_sub hl [2, 3, 4, 5, 6] rfl)
  refine lv_if_ne (tgt := 1225) hx hb dL_law_1210 (by decide) (fun _ => fin) (fun z0 => ?_)
  have h14 := h14 z0
  refine lv_aload_n hx hb dL_law_1213 rfl (lv_at hl 3 rfl) ?_
  refine lv_iconst (v := 0) hx hb dL_law_1214 (by decide) ?_
  refine zlald C hw (zn14 hL) dL_law_1215 ?_
  refine lv_iload hx hb dL_law_1216 (lv_at hl 0 rfl) ?_
  refine lv_i2l hx hb dL_law_1218 rfl ?_
  refine W.lcmp hx hb dL_law_1219 ?_
  refine lv_if_eq (tgt := 1225) hx hb dL_law_1220 (by decide) (fun _ => fin) (fun z => absurd (by rw [h14]; exact lw_cmp0) z)
set_option maxHeartbeats 4000000 in
set_option maxRecDepth 100000 in
theorem lw_case_bestWater {p : Program} {l : Launch} {e : Env} {s : State} {mi : MethodId} {below : List Frame} {meth : Method} {c : Code} {b LX : Nat} {xs : Nat → Int32} {D : va_G} {cy : Nat → ClassId} {ad : ZN → Nat} {L : List ZN} (F : lwF l p s mi meth c b LX xs D cy ad L) {n : Nat} (hn : 4 * n + 4 ≤ LX) (K : lwK p l e s mi below meth c b D cy ad L (n + 1) n 1351) : lwK p l e s mi below meth c b D cy ad L n n 1228 := by
  intro d0 hd0 H locs ls m bc sc bu hq f cn R hw hl
  obtain ⟨hst, C, E, N, hX, hbl, hbA, hAs, hr, hlocks, hml, hL, hn0, hn1, hLX⟩ := id F
  have C := zX_d0 d0 C
  have E : zE (zA ad L (s.setDrawn d0).heap.size) (s.setDrawn d0) (s.setDrawn d0).heap := zE_same (u := s) (U := s.setDrawn d0) rfl E
  have N : zNcs (s.setDrawn d0) := zNcs_to (u := s) (U := s.setDrawn d0) (Vm.Alike.refl _) N
  have hw : zH D cy ad L (s.setDrawn d0).heap H locs m := hw
  have hx := C.1
  have hb := C.2.1
  have T := tc_bestWater R (show n < 512 by omega) (xs (4 * n + 1)) (xs (4 * n + 2))
  unfold tDone at T
  refine lv_aload_n hx hb dL_law_1228 rfl (lv_at hl 3 rfl) ?_
  refine lv_aload_n hx hb dL_law_1229 rfl (lv_at hl 4 rfl) ?_
  refine lv_iload hx hb dL_law_1230 (lv_at hl 0 rfl) ?_
  refine lv_iconst (v := 1) hx hb dL_law_1232 (by decide) ?_
  refine lv_iadd hx hb dL_law_1233 ?_
  refine lw_sld F hw (k := 4 * n + 1) (zadd (b := 1) rfl rfl) (by omega) dL_law_1234 ?_
  refine lv_aload_n hx hb dL_law_1235 rfl (lv_at hl 4 rfl) ?_
  refine lv_iload hx hb dL_law_1236 (lv_at hl 0 rfl) ?_
  refine lv_iconst (v := 2) hx hb dL_law_1238 (by decide) ?_
  refine lv_iadd hx hb dL_law_1239 ?_
  refine lw_sld F hw (k := 4 * n + 2) (zadd (b := 2) rfl rfl) (by omega) dL_law_1240 ?_
  refine lv_aload_n hx hb dL_law_1241 rfl (lv_at hl 1 rfl) ?_
  refine zafter_iC C hw (zrunSW (As := [.ref (ad (0, 0, 0)), .int (xs (4 * n + 1)), .int (xs (4 * n + 2)), .ref (ad (14, 0, 0))]) (rest := []) C E N hml hl.1 hw (c_L_bestWater l hst D cy ad m H.size hL (xs (4 * n + 1)) (xs (4 * n + 2))) zv_L_137 rfl rfl rfl ⟨Nat.le_of_ble_eq_true rfl, Nat.le_of_ble_eq_true rfl⟩ rfl (Nat.le_of_ble_eq_true rfl) dL_law_1242 ⟨(show (300 + 20 * n) + 2 ≤ 601024 by omega), (show (1500 + 220 * n) + 12 ≤ 7293034 by omega)⟩) (fun r1 m1 H locs hr1 hw => ?_)
  obtain ⟨e1, e2⟩ := hr1
  rw [← e2, ← e1] at T
  obtain ⟨G1, h12, h14, R1⟩ := T
  have h12 : (q8_bestWater m1 (xs (4 * n + 1)) (xs (4 * n + 2))).2 (12, 0, 0) 0 = r1 := h12
  have h14 : r1 = 0 → (q8_bestWater m1 (xs (4 * n + 1)) (xs (4 * n + 2))).2 (14, 0, 0) 0 = (q8_bestWater m1 (xs (4 * n + 1)) (xs (4 * n + 2))).1 := h14
  have R1 : ∃ bc1 sc1 bu1 hq1 f1 cn1, RQ (q8_bestWater m1 (xs (4 * n + 1)) (xs (4 * n + 2))).2 (q8_bestWater m1 (xs (4 * n + 1)) (xs (4 * n + 2))).2 (n + 1) bc1 sc1 bu1 hq1 f1 cn1 := R1
  refine lv_istore (lv' := (5, .int r1) :: lwl b ad (nI (4 * n))) hx hb dL_law_1245 hl (by decide) rfl (fun ls hl => ?_)
  refine lv_aload_n hx hb dL_law_1247 rfl (lv_at hl 3 rfl) ?_
  refine lv_aload_n hx hb dL_law_1248 rfl (lv_at hl 5 rfl) ?_
  refine lv_iload hx hb dL_law_1249 (lv_at hl 1 rfl) ?_
  refine lv_iconst (v := 1) hx hb dL_law_1251 (by decide) ?_
  refine lv_iadd hx hb dL_law_1252 ?_
  refine lw_sld F hw (k := 4 * n + 1) (zadd (b := 1) rfl rfl) (by omega) dL_law_1253 ?_
  refine lv_aload_n hx hb dL_law_1254 rfl (lv_at hl 5 rfl) ?_
  refine lv_iload hx hb dL_law_1255 (lv_at hl 1 rfl) ?_
  refine lv_iconst (v := 2) hx hb dL_law_1257 (by decide) ?_
  refine lv_iadd hx hb dL_law_1258 ?_
  refine lw_sld F hw (k := 4 * n + 2) (zadd (b := 2) rfl rfl) (by omega) dL_law_1259 ?_
  refine zafter_iC C hw (zrunV (As := [.int (xs (4 * n + 1)), .int (xs (4 * n + 2))]) (rest := []) C hml hl.1 hw (zn12 hL) rfl rfl (c_X8_bestWater l D cy ad m1 H.size hL (xs (4 * n + 1)) (xs (4 * n + 2))) zv_L_139 rfl rfl rfl ⟨Nat.le_of_ble_eq_true rfl, Nat.le_of_ble_eq_true rfl⟩ rfl (Nat.le_of_ble_eq_true rfl) dL_law_1260 ⟨(show (300 + 20 * n) + 2 + 0 ≤ 601024 by omega), (show (1500 + 220 * n) + 12 + 0 ≤ 7293034 by omega)⟩) (fun r2 m2 H locs hr2 hw => ?_)
  obtain ⟨e3, e4⟩ := hr2
  rw [← e4] at h12 R1
  rw [← e4, ← e3] at h14
  obtain ⟨bc1, sc1, bu1, hq1, f1, cn1, R1⟩ := R1
  refine lv_istore (lv' := (6, .int r2) :: (5, .int r1) :: lwl b ad (nI (4 * n))) hx hb dL_law_1263 hl (by decide) rfl (fun ls hl => ?_)
  refine lv_aload_n hx hb dL_law_1265 rfl (lv_at hl 4 rfl) ?_
  refine zafter_iC C hw (zrunV (As := []) (rest := []) C hml hl.1 hw (zn12 hL) rfl rfl (c_X8_thrown l D cy ad m2 H.size hL) zv_L_83 rfl rfl rfl ⟨Nat.le_of_ble_eq_true rfl, Nat.le_of_ble_eq_true rfl⟩ rfl (Nat.le_of_ble_eq_true rfl) dL_law_1266 ⟨(show ((300 + 20 * n) + 2) + 0 + 0 ≤ 601024 by omega), (show ((1500 + 220 * n) + 12) + 0 + 0 ≤ 7293034 by omega)⟩) (fun r3 m3 H locs hr3 hw => ?_)
  obtain ⟨e5, e6⟩ := hr3
  rw [e6] at hw
  rw [h12] at e5
  refine lv_iload hx hb dL_law_1269 (lv_at hl 1 rfl) ?_
  refine lv_icmp_eq (tgt := 1276) hx hb dL_law_1271 (by decide) (fun _ => ?_) (fun z => absurd e5 z)
  refine lv_iload hx hb dL_law_1276 (lv_at hl 1 rfl) ?_
  have fin : W p l e room_1 (s.setDrawn d0) mi #[Value.ref b] below meth c H locs ((300 + 20 * n) + 2 + 0 + 0) (1500 + 220 * n + 12 + 0 + 0) (lw_Z below #[Value.ref b] s) (F0 mi 1293 ls []) := by
    refine lv_goto (tgt := 1351) hx hb dL_law_1293 (by decide) ?_
    refine W.widen (k := 300 + 20 * (n + 1)) (n := 1500 + 220 * (n + 1)) (by omega) (by omega) ?_
    exact K d0 hd0 H locs ls m2 bc1 sc1 bu1 hq1 f1 cn1 R1 hw (lv_sub hl [2, 3, 4, 5, 6] rfl)
  refine lv_if_ne (tgt := 1293) hx hb dL_law_1278 (by decide) (fun _ => fin) (fun z0 => ?_)
  have h14 := h14 z0
  refine lv_aload_n hx hb dL_law_1281 rfl (lv_at hl 3 rfl) ?_
  refine lv_iconst (v := 0) hx hb dL_law_1282 (by decide) ?_
  refine zlald C hw (zn14 hL) dL_law_1283 ?_
  refine lv_iload hx hb dL_law_1284 (lv_at hl 0 rfl) ?_
  refine lv_i2l hx hb dL_law_1286 rfl ?_
  refine W.lcmp hx hb dL_law_1287 ?_
  refine lv_if_eq (tgt := 1293) hx hb dL_law_1288 (by decide) (fun _ => fin) (fun z => absurd (by rw [h14]; exact lw_cmp0) z)
