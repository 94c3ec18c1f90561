/-! THE FLAT WORLD: every object and array has a name (kind, a, b); a memory m tells each one's numbers; the references are fixed by the names. -/
abbrev ZN : Type := Nat × Nat × Nat
abbrev ZM : Type := ZN → Nat → Int32
/-- what the cell of a name holds: cy the arrays' classes, ad the addresses, w its numbers -/
def zc (cy : Nat → ClassId) (ad : ZN → Nat) (n : ZN) (w : Nat → Int32) : va_E := match n.1 with
  | 0 => .inr (6, [.ref (ad (1, 0, 0)), .ref (ad (1, 1, 0))])
  | 1 => .inr (5, [.ref (ad (2, n.2.1, 24)), .ref (ad (3, n.2.1, 0)), .ref (ad (8, n.2.1, 0)), .ref (ad (11, n.2.1, 0)), .ref (ad (7, n.2.1, 45)), .ref (ad (7, n.2.1, 46)), .int (w 6), .int (w 7), .int (w 8), .int (w 9), .int (w 10), .int (w 11)])
  | 2 => .inl (cy 0, n.2.2, .inl w)
  | 3 => .inl (cy 1, 4, .inr (.inr (.inr (.inr (fun i => some (ad (4, n.2.1, i)))))))
  | 4 => .inr (0, [.ref (ad (5, n.2.1, n.2.2)), .ref (ad (7, n.2.1, 3 * n.2.2)), .ref (ad (7, n.2.1, 3 * n.2.2 + 1)), .ref (ad (7, n.2.1, 3 * n.2.2 + 2)), .int (w 4), .int (w 5), .int (w 6), .int (w 7), .int (w 8)])
  | 5 => .inl (cy 4, 4, .inr (.inr (.inr (.inr (fun j => some (ad (6, n.2.1, 4 * n.2.2 + j)))))))
  | 6 => .inr (4, [.int (w 0), .int (w 1), .int (w 2)])
  | 7 => .inr (3, [.int (w 0), .int (w 1)])
  | 8 => .inr (1, [.ref (ad (9, n.2.1, 0)), .int (w 1), .int (w 2)])
  | 9 => .inl (cy 2, 30, .inr (.inr (.inr (.inr (fun i => some (ad (10, n.2.1, i)))))))
  | 10 => .inr (2, [.ref (ad (7, n.2.1, 12 + n.2.2)), .int (w 1)])
  | 11 => .inl (cy 3, 3, .inr (.inr (.inr (.inr (fun i => some (ad (7, n.2.1, 42 + i)))))))
  | 12 => .inr (8, [.int (w 0), .ref (ad (13, 0, 0)), .ref (ad (13, 1, 0)), .ref (ad (2, 60, 2)), .int (w 4), .int (w 5), .int (w 6)])
  | 13 => .inr (7, [.int (w 0), .int (w 1), .int (w 2), .ref (ad (2, 10 + 20 * n.2.1, 24)), .int (w 4), .ref (ad (2, 11 + 20 * n.2.1, 4)), .ref (ad (2, 12 + 20 * n.2.1, 16)), .ref (ad (2, 13 + 20 * n.2.1, 16)), .ref (ad (2, 14 + 20 * n.2.1, 16)), .ref (ad (2, 15 + 20 * n.2.1, 4)), .ref (ad (2, 16 + 20 * n.2.1, 4)), .ref (ad (2, 17 + 20 * n.2.1, 4)), .ref (ad (2, 18 + 20 * n.2.1, 4)), .ref (ad (2, 19 + 20 * n.2.1, 24)), .int (w 14), .ref (ad (2, 20 + 20 * n.2.1, 90)), .ref (ad (2, 21 + 20 * n.2.1, 6)), .int (w 17)])
  | _ => .inl (cy 5, 1, .inr (.inl (fun j => (w j).toInt64)))
/-- the classes of the arrays -/
def ztys (cy : Nat → ClassId) : List (ClassId × FieldType) := [(cy 0, .int), (cy 1, .object "StampWorks$Box"), (cy 2, .object "StampWorks$Lot"), (cy 3, .object "StampWorks$Ore"), (cy 4, .object "StampWorks$Stamp"), (cy 5, .long)]
/-- the world: the cells of the names in L -/
def zw (cy : Nat → ClassId) (ad : ZN → Nat) (L : List ZN) (m : ZM) : va_W := L.map (fun n => (ad n, zc cy ad n (m n)))
def zu (m : ZM) (n : ZN) (w : Nat → Int32) : ZM := fun n' => if n' = n then w else m n'
/-- the number k of the thing n becomes x -/
def zs (m : ZM) (n : ZN) (k : Nat) (x : Int32) : ZM := zu m n (upd (m n) k x)
theorem zw_get {cy : Nat → ClassId} {ad : ZN → Nat} {L : List ZN} {m : ZM} {n : ZN} (h : n ∈ L) : ∃ k : Nat, L[k]? = some n ∧ (zw cy ad L m)[k]? = some (ad n, zc cy ad n (m n)) := by
  obtain ⟨k, hk⟩ := List.getElem?_of_mem h
  exact ⟨k, hk, by simp [zw, hk]⟩
theorem zw_of {cy : Nat → ClassId} {ad : ZN → Nat} {L : List ZN} {m : ZM} {k : Nat} {q : Nat × va_E} (h : (zw cy ad L m)[k]? = some q) : ∃ n, L[k]? = some n ∧ q = (ad n, zc cy ad n (m n)) := by
  simp only [zw, List.getElem?_map] at h
  cases hn : L[k]? with
  | none => rw [hn] at h; cases h
  | some n =>
    rw [hn] at h
    exact ⟨n, rfl, (Option.some.inj h).symm⟩
theorem zw_mem {cy : Nat → ClassId} {ad : ZN → Nat} {L : List ZN} {m : ZM} {k : Nat} {q : Nat × va_E} (h : (zw cy ad L m)[k]? = some q) : ∃ n, n ∈ L ∧ q.1 = ad n := by
  obtain ⟨n, h1, h2⟩ := zw_of h
  exact ⟨n, List.mem_of_getElem? h1, by rw [h2]⟩
theorem zw_set {cy : Nat → ClassId} {ad : ZN → Nat} {L : List ZN} {m : ZM} {A : Nat → Prop} (hD : va_D A (zw cy ad L m)) {n : ZN} {k : Nat} (hk : L[k]? = some n) (w : Nat → Int32) : (zw cy ad L m).set k (ad n, zc cy ad n w) = zw cy ad L (zu m n w) := by
  have hk0 : (zw cy ad L m)[k]? = some (ad n, zc cy ad n (m n)) := by simp [zw, hk]
  have hl := (List.getElem?_eq_some_iff.mp hk0).1
  apply List.ext_getElem?
  intro j
  by_cases hj : j = k
  · subst hj
    rw [List.getElem?_set_self hl]
    simp [zw, hk, zu]
  · rw [List.getElem?_set_ne (Ne.symm hj)]
    cases hn : L[j]? with
    | none => simp [zw, hn]
    | some n' =>
      have hne : n' ≠ n := by
        intro e
        subst e
        have h2 : (zw cy ad L m)[j]? = some (ad n', zc cy ad n' (m n')) := by simp [zw, hn]
        exact hj (hD.1 j k _ _ h2 hk0 rfl)
      simp [zw, hn, zu, hne]
/-- the addresses that a method may write to -/
def zA (ad : ZN → Nat) (L : List ZN) (sz : Nat) : Nat → Prop := fun q => (∃ n, n ∈ L ∧ q = ad n) ∨ sz ≤ q
theorem zA_le {ad : ZN → Nat} {L : List ZN} {sz sz1 : Nat} (h : sz ≤ sz1) {q : Nat} (hq : zA ad L sz1 q) : zA ad L sz q := hq.elim Or.inl (fun h1 => Or.inr (Nat.le_trans h h1))
theorem zA_lt {ad : ZN → Nat} {L : List ZN} {sz sz1 : Nat} {q : Nat} (h : q < sz1) (hq : zA ad L sz1 q) : zA ad L sz q := hq.elim Or.inl (fun h1 => absurd h (Nat.not_lt.mpr h1))
/-- the private fields of a nest mate that the reference looks at -/
def znest : List Cond := [(93, "hour", "I"), (100, "pond", "I"), (38, "sluice", "I"), (35, "inflow", "[I"), (41, "boxes", "I"), (54, "stamps", "[I"), (57, "weight", "[I"), (60, "cams", "[I"), (63, "wear", "[I"), (44, "feed", "[I"), (66, "goes", "[I"), (47, "hardness", "[I"), (72, "force", "[I"), (69, "ore", "[I"), (79, "lots", "I"), (86, "lot", "[I"), (129, "buddle", "[I"), (109, "slime", "I")].map (fun q => Cond.fieldLinkNest RX8 q.1 "StampWorksModel$State" q.2.1 q.2.2 "StampWorksModel")
/-- .. and the private methods -/
def znestM : List Cond := [(RX0, 17, yX4_init), (RX0, 20, yX3_init), (RX2, 9, yX3_init), (RX5, 35, yX3_init), (RX3, 16, yX6_gradeOf), (RX3, 35, yX6_partOf), (RX5, 139, yX6_rockOfHead), (RX5, 142, yX6_tinOfHead), (RX5, 159, yX6_partOf), (RX5, 163, yX6_gradeOf)].map (fun q => Cond.methodLinkNest q.1 q.2.1 q.2.2 "StampWorks")
def zNw (U : State) : Prop := (∀ w ∈ znest, va_Nw w U) ∧ ∀ w ∈ znestM, va_Nw w U
theorem zNw_warm {s U : State} (hW : s.WarmedH U.vm) (h : zNw s) : zNw U := by
  refine ⟨fun w hw => ?_, fun w hw => ?_⟩
  · have h1 := h.1 w hw
    obtain ⟨q, -, rfl⟩ := List.mem_map.mp hw
    exact va_Nw.warmF hW h1
  · have h1 := h.2 w hw
    obtain ⟨q, -, rfl⟩ := List.mem_map.mp hw
    exact va_Nw.warmM hW h1
theorem zNw_same {u U : State} (hv : u.vm = U.vm) (h : zNw u) : zNw U := by
  refine ⟨fun w hw => ?_, fun w hw => ?_⟩
  · have h1 := h.1 w hw
    obtain ⟨q, -, rfl⟩ := List.mem_map.mp hw
    exact va_Nw.same rfl hv h1
  · have h1 := h.2 w hw
    obtain ⟨q, -, rfl⟩ := List.mem_map.mp hw
    exact va_Nw.same rfl hv h1
theorem znest_at (i : Nat) {w : Cond} (h : znest[i]? = some w) : w ∈ znest := List.mem_of_getElem? h
theorem znestM_at (i : Nat) {w : Cond} (h : znestM[i]? = some w) : w ∈ znestM := List.mem_of_getElem? h
/-- what the rows need of the machine -/
def zX (p : Program) (s : State) (mi : MethodId) (args : Array Value) (c : Code) (cc : ByteArray) (own : String) (D : va_G) (cy : Nat → ClassId) : Prop :=
  p.tables.exec = Jvm.exec ∧ c.code = cc ∧ (∀ w ∈ wsL_law, w.before args s = true) ∧ s.vm.findClass own = some mi.cls ∧ va_K D vwCl (ztys cy) s ∧ zNw s
/-- the world in the heap -/
def zH (D : va_G) (cy : Nat → ClassId) (ad : ZN → Nat) (L : List ZN) (H0 H : Heap) (locs : List Loc) (m : ZM) : Prop :=
  va_P D vwCl (zw cy ad L m) H ∧ va_D (zA ad L H0.size) (zw cy ad L m) ∧ va_S (zA ad L H0.size) H0 H locs
section ZR
variable {p : Program} {l : Launch} {e : Env} {R : Room} {s : State} {mi : MethodId} {args : Array Value} {below : List Frame} {meth : Method} {c : Code} {H H0 : Heap} {locs : List Loc} {cells slots : Nat} {Q : State → Prop}
variable {cc : ByteArray} {own : String} {pc : Nat} {ls : Array Slot} {rest : List Value} {D : va_G} {cy : Nat → ClassId} {ad : ZN → Nat} {L : List ZN} {m : ZM} {n : ZN}
theorem zget (C : zX p s mi args c cc own D cy) (hw : zH D cy ad L H0 H locs m) (hn : n ∈ L) {ci : Nat} {fs : List Value} (hc : zc cy ad n (m n) = .inr (ci, fs)) {Cn ref : String} {T : u_T} {N : Nat} (hcl : vwCl[ci]? = some (Cn, T, N)) (hin : ∀ w ∈ u_ws Cn T N, w ∈ wsL_law) {index : Nat} (k : Nat) (hk : k < N)
    (hl : Cond.fieldLink own index ref (T k).2.1 (T k).2.2.1 ∈ wsL_law) (href : (T k).1 = ref) {v : Value} (hv : fs[k]? = some v) (hdg : decode cc pc = .ok (.getfield index, 3))
    (kk : W p l e R s mi args below meth c H locs cells slots Q (F0 mi (pc + 3) ls (v :: rest))) : W p l e R s mi args below meth c H locs cells slots Q (F0 mi pc ls (.ref (ad n) :: rest)) := by
  obtain ⟨hx, hb, hts, hown, hK, hNw⟩ := C
  obtain ⟨k0, -, h0⟩ := zw_get (cy := cy) (ad := ad) (m := m) hn
  rw [hc] at h0
  exact va_get hx hb hts hin hown hK hw.1 k0 h0 hcl k hk (hts _ hl) (fun _ h => by rw [← href]; exact h) hv hdg kk
theorem zH_set (hw : zH D cy ad L H0 H locs m) {k : Nat} (hk : L[k]? = some n) {w : Nat → Int32} {H1 : Heap} {locs1 : List Loc} (hP : va_P D vwCl ((zw cy ad L m).set k (ad n, zc cy ad n w)) H1) (hD : va_D (zA ad L H0.size) ((zw cy ad L m).set k (ad n, zc cy ad n w))) (hS : va_S (zA ad L H0.size) H0 H1 locs1) : zH D cy ad L H0 H1 locs1 (zu m n w) := by
  rw [zw_set hw.2.1 hk] at hP hD
  exact ⟨hP, hD, hS⟩
theorem zput (C : zX p s mi args c cc own D cy) (hw : zH D cy ad L H0 H locs m) (hn : n ∈ L) {ci : Nat} {fs : List Value} (hc : zc cy ad n (m n) = .inr (ci, fs)) {Cn ref : String} {T : u_T} {N : Nat} (hcl : vwCl[ci]? = some (Cn, T, N)) (hin : ∀ w ∈ u_ws Cn T N, w ∈ wsL_law) {index : Nat} (k : Nat) (hk : k < N)
    (hl : Cond.fieldLink own index ref (T k).2.1 (T k).2.2.1 ∈ wsL_law) (href : (T k).1 = ref) (ty0 : Nat → FieldType) (hty : ∀ k, k < N → parseFieldDescriptor (T k).2.2.1 = some (ty0 k)) (hnm : ∀ a, a < N → ∀ b, b < N → a ≠ b → (T a).2.1 ≠ (T b).2.1) (hfin : (T k).2.2.2 = false) (hd : parseFieldDescriptor (T k).2.2.1 = some .int)
    {x : Int32} (hlen : k < fs.length) (hset : zc cy ad n (upd (m n) k x) = .inr (ci, fs.set k (.int x))) (hdg : decode cc pc = .ok (.putfield index, 3))
    (kk : ∀ (H1 : Heap) (locs1 : List Loc) (m1 : ZM), m1 = zs m n k x → zH D cy ad L H0 H1 locs1 m1 → W p l e R s mi args below meth c H1 locs1 cells slots Q (F0 mi (pc + 3) ls rest)) : W p l e R s mi args below meth c H locs cells slots Q (F0 mi pc ls (.int x :: .ref (ad n) :: rest)) := by
  obtain ⟨hx, hb, hts, hown, hK, hNw⟩ := C
  obtain ⟨k0, hk0, h0⟩ := zw_get (cy := cy) (ad := ad) (m := m) hn
  rw [hc] at h0
  refine va_put hx hb hts hin ty0 hty hnm hown hK hw.1 hw.2.1 hw.2.2 k0 h0 hcl k hk (hts _ hl) (fun _ h => by rw [← href]; exact h) hfin (ty := .int) (v := .int x) hd rfl rfl hlen hdg (fun H1 locs1 hP hD hS => ?_)
  rw [← hset] at hP hD
  exact kk H1 locs1 _ rfl (zH_set hw hk0 hP hD hS)
theorem zgetN (C : zX p s mi args c cc own D cy) (hw : zH D cy ad L H0 H locs m) (hn : n ∈ L) {ci : Nat} {fs : List Value} (hc : zc cy ad n (m n) = .inr (ci, fs)) {Cn ref host : String} {T : u_T} {N : Nat} (hcl : vwCl[ci]? = some (Cn, T, N)) (hin : ∀ w ∈ u_ws Cn T N, w ∈ wsL_law) {index : Nat} (k : Nat) (hk : k < N)
    (hl : Cond.fieldLinkNest own index ref (T k).2.1 (T k).2.2.1 host ∈ znest) (href : (T k).1 = ref) {v : Value} (hv : fs[k]? = some v) (hdg : decode cc pc = .ok (.getfield index, 3))
    (kk : W p l e R s mi args below meth c H locs cells slots Q (F0 mi (pc + 3) ls (v :: rest))) : W p l e R s mi args below meth c H locs cells slots Q (F0 mi pc ls (.ref (ad n) :: rest)) := by
  obtain ⟨hx, hb, hts, hown, hK, hNw⟩ := C
  obtain ⟨k0, -, h0⟩ := zw_get (cy := cy) (ad := ad) (m := m) hn
  rw [hc] at h0
  exact va_getN hx hb hts hin hown hK hw.1 k0 h0 hcl k hk (va_Nw.use rfl (hNw.1 _ hl)) (fun _ h => by rw [← href]; exact h) hv hdg kk
theorem zputN (C : zX p s mi args c cc own D cy) (hw : zH D cy ad L H0 H locs m) (hn : n ∈ L) {ci : Nat} {fs : List Value} (hc : zc cy ad n (m n) = .inr (ci, fs)) {Cn ref host : String} {T : u_T} {N : Nat} (hcl : vwCl[ci]? = some (Cn, T, N)) (hin : ∀ w ∈ u_ws Cn T N, w ∈ wsL_law) {index : Nat} (k : Nat) (hk : k < N)
    (hl : Cond.fieldLinkNest own index ref (T k).2.1 (T k).2.2.1 host ∈ znest) (href : (T k).1 = ref) (ty0 : Nat → FieldType) (hty : ∀ k, k < N → parseFieldDescriptor (T k).2.2.1 = some (ty0 k)) (hnm : ∀ a, a < N → ∀ b, b < N → a ≠ b → (T a).2.1 ≠ (T b).2.1) (hfin : (T k).2.2.2 = false) (hd : parseFieldDescriptor (T k).2.2.1 = some .int)
    {x : Int32} (hlen : k < fs.length) (hset : zc cy ad n (upd (m n) k x) = .inr (ci, fs.set k (.int x))) (hdg : decode cc pc = .ok (.putfield index, 3))
    (kk : ∀ (H1 : Heap) (locs1 : List Loc) (m1 : ZM), m1 = zs m n k x → zH D cy ad L H0 H1 locs1 m1 → W p l e R s mi args below meth c H1 locs1 cells slots Q (F0 mi (pc + 3) ls rest)) : W p l e R s mi args below meth c H locs cells slots Q (F0 mi pc ls (.int x :: .ref (ad n) :: rest)) := by
  obtain ⟨hx, hb, hts, hown, hK, hNw⟩ := C
  obtain ⟨k0, hk0, h0⟩ := zw_get (cy := cy) (ad := ad) (m := m) hn
  rw [hc] at h0
  refine va_putN hx hb hts hin ty0 hty hnm hown hK hw.1 hw.2.1 hw.2.2 k0 h0 hcl k hk (va_Nw.use rfl (hNw.1 _ hl)) (fun _ h => by rw [← href]; exact h) hfin (ty := .int) (v := .int x) hd rfl rfl hlen hdg (fun H1 locs1 hP hD hS => ?_)
  rw [← hset] at hP hD
  exact kk H1 locs1 _ rfl (zH_set hw hk0 hP hD hS)
theorem zald (C : zX p s mi args c cc own D cy) (hw : zH D cy ad L H0 H locs m) {id len : Nat} (hn : (2, id, len) ∈ L) {i : Int32} (hi : vp_in i len) (hdg : decode cc pc = .ok (.iaload, 1))
    (kk : W p l e R s mi args below meth c H locs cells slots Q (F0 mi (pc + 1) ls (.int (m (2, id, len) i.toNatClampNeg) :: rest))) : W p l e R s mi args below meth c H locs cells slots Q (F0 mi pc ls (.int i :: .ref (ad (2, id, len)) :: rest)) := by
  obtain ⟨hx, hb, hts, hown, hK, hNw⟩ := C
  obtain ⟨k0, -, h0⟩ := zw_get (cy := cy) (ad := ad) (m := m) hn
  exact va_iald hx hb hK hw.1 k0 0 (f := m (2, id, len)) h0 rfl hi hdg kk
theorem zast (C : zX p s mi args c cc own D cy) (hw : zH D cy ad L H0 H locs m) {id len : Nat} (hn : (2, id, len) ∈ L) {i x : Int32} (hi : vp_in i len) (hdg : decode cc pc = .ok (.iastore, 1))
    (kk : ∀ (H1 : Heap) (locs1 : List Loc) (m1 : ZM), m1 = zs m (2, id, len) i.toNatClampNeg x → zH D cy ad L H0 H1 locs1 m1 → W p l e R s mi args below meth c H1 locs1 cells slots Q (F0 mi (pc + 1) ls rest)) : W p l e R s mi args below meth c H locs cells slots Q (F0 mi pc ls (.int x :: .int i :: .ref (ad (2, id, len)) :: rest)) := by
  obtain ⟨hx, hb, hts, hown, hK, hNw⟩ := C
  obtain ⟨k0, hk0, h0⟩ := zw_get (cy := cy) (ad := ad) (m := m) hn
  exact va_iast hx hb hK hw.1 hw.2.1 hw.2.2 k0 0 (f := m (2, id, len)) h0 rfl hi hdg (fun H1 locs1 hP hD hS => kk H1 locs1 _ rfl (zH_set (n := (2, id, len)) (w := upd (m (2, id, len)) i.toNatClampNeg x) hw hk0 hP hD hS))
theorem zlen (C : zX p s mi args c cc own D cy) (hw : zH D cy ad L H0 H locs m) {id len : Nat} (hn : (2, id, len) ∈ L) (hdg : decode cc pc = .ok (.arraylength, 1))
    (kk : W p l e R s mi args below meth c H locs cells slots Q (F0 mi (pc + 1) ls (.int (nI len) :: rest))) : W p l e R s mi args below meth c H locs cells slots Q (F0 mi pc ls (.ref (ad (2, id, len)) :: rest)) := by
  obtain ⟨hx, hb, hts, hown, hK, hNw⟩ := C
  obtain ⟨k0, -, h0⟩ := zw_get (cy := cy) (ad := ad) (m := m) hn
  exact va_alen hx hb hK hw.1 k0 0 (x := (len, .inl (m (2, id, len)))) h0 rfl rfl hdg kk
theorem zald_q (C : zX p s mi args c cc own D cy) (hw : zH D cy ad L H0 H locs m) (hn : n ∈ L) (t0 : Nat) {cA : ClassId} {Cn : String} {N : Nat} {f : Nat → Nat} (hc : zc cy ad n (m n) = .inl (cA, N, .inr (.inr (.inr (.inr (fun i => some (f i))))))) (ht : (ztys cy)[t0]? = some (cA, .object Cn)) {i : Int32} (hi : vp_in i N) (hdg : decode cc pc = .ok (.aaload, 1))
    (kk : W p l e R s mi args below meth c H locs cells slots Q (F0 mi (pc + 1) ls (.ref (f i.toNatClampNeg) :: rest))) : W p l e R s mi args below meth c H locs cells slots Q (F0 mi pc ls (.int i :: .ref (ad n) :: rest)) := by
  obtain ⟨hx, hb, hts, hown, hK, hNw⟩ := C
  obtain ⟨k0, -, h0⟩ := zw_get (cy := cy) (ad := ad) (m := m) hn
  rw [hc] at h0
  exact va_aldq hx hb hK hw.1 k0 t0 h0 ht hi hdg kk
theorem zald_3 (C : zX p s mi args c cc own D cy) (hw : zH D cy ad L H0 H locs m) {a b : Nat} (hn : (3, a, b) ∈ L) {i : Int32} (hi : vp_in i 4) (hdg : decode cc pc = .ok (.aaload, 1))
    (kk : W p l e R s mi args below meth c H locs cells slots Q (F0 mi (pc + 1) ls (.ref (ad (4, a, i.toNatClampNeg)) :: rest))) : W p l e R s mi args below meth c H locs cells slots Q (F0 mi pc ls (.int i :: .ref (ad (3, a, b)) :: rest)) := zald_q (n := (3, a, b)) (f := fun i => ad (4, a, i)) C hw hn 1 rfl rfl hi hdg kk
theorem zald_5 (C : zX p s mi args c cc own D cy) (hw : zH D cy ad L H0 H locs m) {a b : Nat} (hn : (5, a, b) ∈ L) {i : Int32} (hi : vp_in i 4) (hdg : decode cc pc = .ok (.aaload, 1))
    (kk : W p l e R s mi args below meth c H locs cells slots Q (F0 mi (pc + 1) ls (.ref (ad (6, a, 4 * b + i.toNatClampNeg)) :: rest))) : W p l e R s mi args below meth c H locs cells slots Q (F0 mi pc ls (.int i :: .ref (ad (5, a, b)) :: rest)) := zald_q (n := (5, a, b)) (f := fun i => ad (6, a, 4 * b + i)) C hw hn 4 rfl rfl hi hdg kk
theorem zald_9 (C : zX p s mi args c cc own D cy) (hw : zH D cy ad L H0 H locs m) {a b : Nat} (hn : (9, a, b) ∈ L) {i : Int32} (hi : vp_in i 30) (hdg : decode cc pc = .ok (.aaload, 1))
    (kk : W p l e R s mi args below meth c H locs cells slots Q (F0 mi (pc + 1) ls (.ref (ad (10, a, i.toNatClampNeg)) :: rest))) : W p l e R s mi args below meth c H locs cells slots Q (F0 mi pc ls (.int i :: .ref (ad (9, a, b)) :: rest)) := zald_q (n := (9, a, b)) (f := fun i => ad (10, a, i)) C hw hn 2 rfl rfl hi hdg kk
theorem zald_11 (C : zX p s mi args c cc own D cy) (hw : zH D cy ad L H0 H locs m) {a b : Nat} (hn : (11, a, b) ∈ L) {i : Int32} (hi : vp_in i 3) (hdg : decode cc pc = .ok (.aaload, 1))
    (kk : W p l e R s mi args below meth c H locs cells slots Q (F0 mi (pc + 1) ls (.ref (ad (7, a, 42 + i.toNatClampNeg)) :: rest))) : W p l e R s mi args below meth c H locs cells slots Q (F0 mi pc ls (.int i :: .ref (ad (11, a, b)) :: rest)) := zald_q (n := (11, a, b)) (f := fun i => ad (7, a, 42 + i)) C hw hn 3 rfl rfl hi hdg kk
end ZR
/-! contracts over the flat world -/
def zPc (D : va_G) (cy : Nat → ClassId) (ad : ZN → Nat) (L : List ZN) (m : ZM) (sz : Nat) (av : List Value) : Array Value → State → Prop := va_Pc av (fun U => U.heap.size = sz ∧ va_P D vwCl (zw cy ad L m) U.heap ∧ va_K D vwCl (ztys cy) U ∧ va_D (fun _ => True) (zw cy ad L m) ∧ zNw U)
def zB (D : va_G) (cy : Nat → ClassId) (ad : ZN → Nat) (L : List ZN) (sz : Nat) (m : ZM) (t : State) : Prop := va_P D vwCl (zw cy ad L m) t.heap ∧ va_K D vwCl (ztys cy) t ∧ va_D (zA ad L sz) (zw cy ad L m)
/-- a method's words: its code, and all that the law's walk links -/
abbrev zws (y : MethodName) (b : ByteArray) (maxL : Nat) (ret : Option FieldType) : List Cond := Cond.code y b maxL ret :: wsL_law
abbrev zQi (post : Int32 → ZM → Prop) (D : va_G) (cy : Nat → ClassId) (ad : ZN → Nat) (L : List ZN) (sz : Nat) : Array Value → State → Outcome → State → Prop := va_Qi post (zB D cy ad L sz) (zA ad L sz)
abbrev zQl (post : Int64 → ZM → Prop) (D : va_G) (cy : Nat → ClassId) (ad : ZN → Nat) (L : List ZN) (sz : Nat) : Array Value → State → Outcome → State → Prop := va_Ql post (zB D cy ad L sz) (zA ad L sz)
abbrev zQv (post : ZM → Prop) (D : va_G) (cy : Nat → ClassId) (ad : ZN → Nat) (L : List ZN) (sz : Nat) : Array Value → State → Outcome → State → Prop := va_Qv post (zB D cy ad L sz) (zA ad L sz)
abbrev zQr (post : Nat → ZM → Prop) (D : va_G) (cy : Nat → ClassId) (ad : ZN → Nat) (L : List ZN) (sz : Nat) : Array Value → State → Outcome → State → Prop := va_Qr (S := ZM) (fun _ => True) (fun m a t => post a m ∧ zB D cy ad L sz m t) (zA ad L sz)
theorem zPc_blind {D : va_G} {cy : Nat → ClassId} {ad : ZN → Nat} {L : List ZN} {m : ZM} {sz : Nat} {av : List Value} : FrameBlind (zPc D cy ad L m sz av) := fun a U g mk q => by
  obtain ⟨q0, q1, qP, qK, qD, qN⟩ := q
  exact ⟨q0, q1, qP, va_K.moved (u := U) (U := U.calling g mk a) (Vm.Alike.refl U.vm) qK, qD, zNw_same (u := U) (U := U.calling g mk a) rfl qN⟩
/-- as Met.ofW, for a JDK's own method too -/
theorem zofW {l : Launch} {y : MethodName} {ws ws' : List Cond} {rm : Room} {Pc : Array Value → State → Prop} {Qc : Array Value → State → Outcome → State → Prop} {mc ms : Nat} {free : Addr → Prop} {cc : ByteArray} {maxL : Nat} {ret : Option FieldType}
    (hy : plainFor y = true) (hw : ws = Cond.code y cc maxL ret :: ws')
    (body : ∀ p e s m args below meth c s₁, BodyLoose p l y (headSpec ws rm) cc maxL ret e s m args below meth c s₁ → c.maxLocals = maxL → Pc args s →
      W p l e (headSpec ws rm).room s m args below meth c s.heap [] 0 0 (MQ below Qc args s mc ms free) (entryFrame m args maxL)) : Met l y ws rm Pc Qc mc ms free := by
  refine MetFree.of_bodySF (code := cc) (maxLocals := maxL) (ret := ret) hy ?_ ?_
  · intro args s m h hn
    obtain ⟨meth, c, h1, h2, h3, h4, h5, h6, -, -⟩ := Cond.code_spec hn (atoms_spec (ws := ws) h _ (by rw [hw]; exact List.mem_cons_self))
    exact ⟨meth, c, h1, h2, h3, h4, h5, h6⟩
  · intro p e s m args below meth c s₁ B hml hP _
    have hh0 : s₁.heap = s.heap := by rw [B.state]; rfl
    obtain ⟨t, a1, o, b1, b2, b3⟩ := body p e s m args below meth c s₁ B hml hP s₁ hh0 (Stand.of_body B)
    exact ⟨t, o, a1, b1, b2, ⟨b3.1, b3.2⟩⟩
/-- how a method is opened -/
theorem zopen {l : Launch} {y : MethodName} {b : ByteArray} {maxL : Nat} {ret : Option FieldType} {rm : Room} {D : va_G} {cy : Nat → ClassId} {ad : ZN → Nat} {L : List ZN} {m : ZM} {sz : Nat} {av : List Value} {Qc : Nat → Array Value → State → Outcome → State → Prop} {mc ms : Nat} (own : String)
    (hy : plainFor y = true) (hown : y.cls = own) (hn : (lg_sl av).length ≤ maxL)
    (body : ∀ (p : Program) (e : Env) (s : State) (mi : MethodId) (below : List Frame) (meth : Method) (c : Code) (ls : Array Slot), zX p s mi av.toArray c b own D cy → meth.sig.returnType = ret → meth.locks = false → c.maxLocals = maxL → lv_has ls maxL (lv_args 0 av) → ∀ (H : Heap) (locs : List Loc), zH D cy ad L s.heap H locs m →
      W p l e rm s mi av.toArray below meth c H locs 0 0 (MQ below (Qc s.heap.size) av.toArray s mc ms (zA ad L s.heap.size)) (F0 mi 0 ls [])) :
    Met l y (zws y b maxL ret) rm (zPc D cy ad L m sz av) (Qc sz) mc ms (zA ad L sz) := by
  refine zofW (cc := b) (maxL := maxL) (ret := ret) hy rfl ?_
  intro p e s mi args below meth c s₁ B hml hv
  obtain ⟨rfl, hsz, hP, hK, hD0, hNw⟩ := hv
  subst hsz
  have hts := atoms_spec (ws := zws y b maxL ret) B.pre
  have hD : va_D (zA ad L s.heap.size) (zw cy ad L m) := hD0.weaken (fun k q h _ => by
    obtain ⟨n, h1, h2⟩ := zw_mem h
    exact Or.inl ⟨n, h1, h2⟩)
  have hl := lv_entry av (n := maxL) hn
  rw [lg_entry_eq]
  have hfc : s.vm.findClass own = some mi.cls := by rw [← hown]; exact findClass_of_methodNamed B.named
  exact body p e s mi below meth c _ ⟨B.exec, B.bytes, fun w hw => hts w (List.mem_cons_of_mem _ hw), hfc, hK, hNw⟩ B.returns B.notSynchronized hml hl _ _ ⟨hP, hD, va_S.rf⟩
section ZE
variable {p : Program} {l : Launch} {e : Env} {R : Room} {s : State} {mi : MethodId} {args : Array Value} {below : List Frame} {meth : Method} {c : Code} {H H0 : Heap} {locs : List Loc} {cells slots : Nat} {Q : State → Prop}
variable {cc : ByteArray} {own : String} {pc : Nat} {ls : Array Slot} {rest : List Value} {D : va_G} {cy : Nat → ClassId} {ad : ZN → Nat} {L : List ZN} {m : ZM} {n : ZN}
theorem zB_of (C : zX p s mi args c cc own D cy) (hw : zH D cy ad L s.heap H locs m) {t : State} (ht : t.heap = H) (hW : s.WarmedH t.vm) : zB D cy ad L s.heap.size m t := ⟨by rw [ht]; exact hw.1, va_K.moved hW.alike C.2.2.2.2.1, hw.2.1⟩
theorem zret_i {post : Int32 → ZM → Prop} {r : Int32} (C : zX p s mi args c cc own D cy) (hr : meth.sig.returnType = some .int) (hlocks : meth.locks = false) (hw : zH D cy ad L s.heap H locs m) (hdg : decode cc pc = .ok (.ireturn, 1)) (hp : post r m) :
    W p l e R s mi args below meth c H locs cells slots (MQ below (zQi post D cy ad L s.heap.size) args s cells slots (zA ad L s.heap.size)) (F0 mi pc ls [.int r]) :=
  W.iret C.1 C.2.1 hr (fun t ht hW => ⟨⟨r, m, rfl, hp, zB_of C hw ht hW⟩, hw.2.2.F ht⟩) hw.2.2.2.2 hdg hlocks
/-- a boolean answer: 0 or 1 -/
theorem zret_z {post : Int32 → ZM → Prop} {r : Int32} (C : zX p s mi args c cc own D cy) (hr : meth.sig.returnType = some .boolean) (hn : narrow .boolean (.int r) = .int r) (hlocks : meth.locks = false) (hw : zH D cy ad L s.heap H locs m) (hdg : decode cc pc = .ok (.ireturn, 1)) (hp : post r m) :
    W p l e R s mi args below meth c H locs cells slots (MQ below (zQi post D cy ad L s.heap.size) args s cells slots (zA ad L s.heap.size)) (F0 mi pc ls [.int r]) :=
  W.zret C.1 C.2.1 hr hn (fun t ht hW => ⟨⟨r, m, rfl, hp, zB_of C hw ht hW⟩, hw.2.2.F ht⟩) hw.2.2.2.2 hdg hlocks
theorem zret_l {post : Int64 → ZM → Prop} {r : Int64} (C : zX p s mi args c cc own D cy) (hr : meth.sig.returnType = some .long) (hlocks : meth.locks = false) (hw : zH D cy ad L s.heap H locs m) (hdg : decode cc pc = .ok (.lreturn, 1)) (hp : post r m) :
    W p l e R s mi args below meth c H locs cells slots (MQ below (zQl post D cy ad L s.heap.size) args s cells slots (zA ad L s.heap.size)) (F0 mi pc ls [.long r]) :=
  W.lret C.1 C.2.1 hr (fun t ht hW => ⟨⟨r, m, rfl, hp, zB_of C hw ht hW⟩, hw.2.2.F ht⟩) hw.2.2.2.2 hdg hlocks
theorem zret_v {post : ZM → Prop} (C : zX p s mi args c cc own D cy) (hr : meth.sig.returnType = none) (hlocks : meth.locks = false) (hw : zH D cy ad L s.heap H locs m) (hdg : decode cc pc = .ok (.return_, 1)) (hp : post m) :
    W p l e R s mi args below meth c H locs cells slots (MQ below (zQv post D cy ad L s.heap.size) args s cells slots (zA ad L s.heap.size)) (F0 mi pc ls []) :=
  W.vret C.1 C.2.1 hr (fun t ht hW => ⟨⟨m, rfl, hp, zB_of C hw ht hW⟩, hw.2.2.F ht⟩) hw.2.2.2.2 hdg hlocks
theorem zret_r {post : Nat → ZM → Prop} {a : Nat} {Cn : String} (C : zX p s mi args c cc own D cy) (hr : meth.sig.returnType = some (.object Cn)) (hlocks : meth.locks = false) (hw : zH D cy ad L s.heap H locs m) (hdg : decode cc pc = .ok (.areturn, 1)) (hp : post a m) :
    W p l e R s mi args below meth c H locs cells slots (MQ below (zQr post D cy ad L s.heap.size) args s cells slots (zA ad L s.heap.size)) (F0 mi pc ls [.ref a]) :=
  W.aret C.1 C.2.1 hr (Or.inl ⟨Cn, rfl⟩) (Or.inr ⟨a, rfl⟩) (fun t ht hW => ⟨⟨m, a, rfl, trivial, hp, zB_of C hw ht hW⟩, hw.2.2.F ht⟩) hw.2.2.2.2 hdg hlocks
/-- what a caller hands over -/
theorem zpre (C : zX p s mi args c cc own D cy) (hw : zH D cy ad L s.heap H locs m) {av : List Value} : ∀ U : State, U.heap = H → s.WarmedH U.vm → zPc D cy ad L m H.size av av.toArray U := fun U hU hW =>
  ⟨rfl, by rw [hU], by rw [hU]; exact hw.1, va_K.moved hW.alike C.2.2.2.2.1, hw.2.1.weaken (fun _ _ _ _ => trivial), zNw_warm hW C.2.2.2.2.2⟩
theorem zrecv (C : zX p s mi args c cc own D cy) (hw : zH D cy ad L s.heap H locs m) (hn : n ∈ L) {ci : Nat} {fs : List Value} (hc : zc cy ad n (m n) = .inr (ci, fs)) {q : vw_C} (hcl : vwCl[ci]? = some q) : ∃ cell : Cell, H[ad n]? = some cell ∧ cell.vm.isStatics = false ∧ s.vm.findClass q.1 = some cell.cls := by
  obtain ⟨k0, -, h0⟩ := zw_get (cy := cy) (ad := ad) (m := m) hn
  rw [hc] at h0
  exact va_recv C.2.2.2.2.1 hw.1 hcl h0
theorem zback (C : zX p s mi args c cc own D cy) (hw : zH D cy ad L s.heap H locs m) {m1 : ZM} {t : State} {H1 : Heap} {locs1 : List Loc} (ht : t.heap = H1) (hB : zB D cy ad L H.size m1 t) (hS : va_S (zA ad L s.heap.size) s.heap H1 locs1) : zH D cy ad L s.heap H1 locs1 m1 := by
  obtain ⟨h1, -, h3⟩ := hB
  rw [ht] at h1
  exact ⟨h1, h3.weaken (fun k q h _ => by
    obtain ⟨n, g1, g2⟩ := zw_mem h
    exact Or.inl ⟨n, g1, g2⟩), hS⟩
variable {y : MethodName} {b : ByteArray} {maxL nL mc ms na index : Nat} {ret : Option FieldType} {rm : Room} {av As : List Value}
theorem zhA (hw : zH D cy ad L s.heap H locs m) : (∀ q, q < H.size → zA ad L H.size q → zA ad L s.heap.size q) ∧ (∀ q, zA ad L H.size q → zA ad L s.heap.size q) := ⟨fun q h1 h2 => zA_lt h1 h2, fun q h => zA_le hw.2.2.1 h⟩
/-- the words of a virtual call, of a static one -/
abbrev zGV (own : String) (index : Nat) (Cn : String) (y : MethodName) (b : ByteArray) (maxL : Nat) (ret : Option FieldType) (na : Nat) : Prop := GoodIn wsL_law (wsV own index Cn y (zws y b maxL ret)) ∧ (y.cls = Cn ∧ y.cls ≠ "java/lang/invoke/MethodHandle" ∧ y.cls ≠ "java/lang/invoke/VarHandle" ∧ (parseMethodDescriptor y.desc).map (fun d => d.parameters.length) = some na)
abbrev zGS (own : String) (index : Nat) (y : MethodName) (b : ByteArray) (maxL : Nat) (ret : Option FieldType) (na : Nat) : Prop := GoodIn wsL_law (va_wsS own index y (zws y b maxL ret)) ∧ (y.cls ≠ "java/lang/invoke/MethodHandle" ∧ y.cls ≠ "java/lang/invoke/VarHandle" ∧ (parseMethodDescriptor y.desc).map (fun d => d.parameters.length) = some na)
variable {Qc : Array Value → State → Outcome → State → Prop} {free : Addr → Prop}
theorem zrunV (C : zX p s mi args c cc own D cy) (hml : c.maxLocals = nL) (hls : ls.size = nL) (hw : zH D cy ad L s.heap H locs m) (hn : n ∈ L) {ci : Nat} {fs : List Value} (hc : zc cy ad n (m n) = .inr (ci, fs)) {Cn : String} {T : u_T} {N : Nat} (hcl : vwCl[ci]? = some (Cn, T, N))
    (hM : Met l y (zws y b maxL ret) rm (zPc D cy ad L m H.size (.ref (ad n) :: As)) Qc mc ms free) (hG : zGV own index Cn y b maxL ret na) (hna : As.length = na) (hrc : rm.cells = mc) (hrs : rm.slots = ms) (hR : rm.frames + 1 ≤ R.frames ∧ 8 + (maxL + 11) + rm.locals ≤ R.locals) {st : List Value} (hst : st = As.reverse ++ .ref (ad n) :: rest) (hrest : (rest.map fun v => v.category).sum ≤ 8)
    (hdg : decode cc pc = .ok (.invokevirtual index, 3)) (hf : cells + mc ≤ R.cells ∧ slots + ms ≤ R.slots) :
    va_Run p l e R s mi args below meth c H locs cells slots mc ms (F0 mi pc ls st) rest (Qc (Value.ref (ad n) :: As).toArray) free :=
  va_runV (b := ad n) (As := As) (rest := rest) (nL := nL) ⟨C.1, C.2.1, hml, C.2.2.2.1, C.2.2.1⟩ hM (cwV na C.2.2.1 hG.1 rfl hrc hrs hG.2 hR) ⟨zPc_blind, zrecv C hw hn hc hcl, zpre C hw⟩ rfl hna hls hst (lv_room hrest) hdg hf
theorem zrunS (C : zX p s mi args c cc own D cy) (hml : c.maxLocals = nL) (hls : ls.size = nL) (hw : zH D cy ad L s.heap H locs m)
    (hM : Met l y (zws y b maxL ret) rm (zPc D cy ad L m H.size As) Qc mc ms free) (hG : zGS own index y b maxL ret na) (hna : As.length = na) (hrc : rm.cells = mc) (hrs : rm.slots = ms) (hR : rm.frames + 1 ≤ R.frames ∧ 8 + (maxL + 11) + rm.locals ≤ R.locals) {st : List Value} (hst : st = As.reverse ++ rest) (hrest : (rest.map fun v => v.category).sum ≤ 8)
    (hdg : decode cc pc = .ok (.invokestatic index, 3)) (hf : cells + mc ≤ R.cells ∧ slots + ms ≤ R.slots) :
    va_Run p l e R s mi args below meth c H locs cells slots mc ms (F0 mi pc ls st) rest (Qc As.toArray) free :=
  va_runS (As := As) (rest := rest) (nL := nL) ⟨C.1, C.2.1, hml, C.2.2.2.1, C.2.2.1⟩ hM (va_cwS na C.2.2.1 hG.1 rfl hrc hrs hG.2 hR) ⟨zPc_blind, zpre C hw⟩ rfl hna hls hst (lv_room hrest) hdg hf
/-- a private static method of a nest mate -/
abbrev zGN (own : String) (index : Nat) (y : MethodName) (b : ByteArray) (maxL : Nat) (ret : Option FieldType) (na : Nat) : Prop := GoodIn wsL_law (zws y b maxL ret) ∧ Cond.methodLinkNest own index y "StampWorks" ∈ znestM ∧ Cond.initialized y.cls ∈ wsL_law ∧ Cond.static y ∈ wsL_law ∧ (y.cls ≠ "java/lang/invoke/MethodHandle" ∧ y.cls ≠ "java/lang/invoke/VarHandle" ∧ (parseMethodDescriptor y.desc).map (fun d => d.parameters.length) = some na)
theorem zrunSN (C : zX p s mi args c cc own D cy) (hml : c.maxLocals = nL) (hls : ls.size = nL) (hw : zH D cy ad L s.heap H locs m)
    (hM : Met l y (zws y b maxL ret) rm (zPc D cy ad L m H.size As) Qc mc ms free) (hG : zGN own index y b maxL ret na) (hna : As.length = na) (hrc : rm.cells = mc) (hrs : rm.slots = ms) (hR : rm.frames + 1 ≤ R.frames ∧ 8 + (maxL + 11) + rm.locals ≤ R.locals) {st : List Value} (hst : st = As.reverse ++ rest) (hrest : (rest.map fun v => v.category).sum ≤ 8)
    (hdg : decode cc pc = .ok (.invokestatic index, 3)) (hf : cells + mc ≤ R.cells ∧ slots + ms ≤ R.slots) :
    va_Run p l e R s mi args below meth c H locs cells slots mc ms (F0 mi pc ls st) rest (Qc As.toArray) free :=
  va_runSN (As := As) (rest := rest) (nL := nL) (host := "StampWorks") ⟨C.1, C.2.1, hml, C.2.2.2.1, C.2.2.1⟩ hM ⟨va_cnB na C.2.2.1 hG.1 rfl hrc hrs (C.2.2.2.2.2.2 _ hG.2.1) (C.2.2.1 _ hG.2.2.1) hG.2.2.2.2 hR, C.2.2.1 _ hG.2.2.2.1, trivial⟩ ⟨zPc_blind, zpre C hw⟩ rfl hna hls hst (lv_room hrest) hdg hf
variable {st : List Value} {aa : Array Value}
theorem zafter_i {post : Int32 → ZM → Prop} (C : zX p s mi args c cc own D cy) (hw : zH D cy ad L s.heap H locs m) (hr : va_Run p l e R s mi args below meth c H locs cells slots 0 0 (F0 mi pc ls st) rest (zQi post D cy ad L H.size aa) (zA ad L H.size))
    (kk : ∀ (r : Int32) (m1 : ZM) (H1 : Heap) (locs1 : List Loc), post r m1 → zH D cy ad L s.heap H1 locs1 m1 → W p l e R s mi args below meth c H1 locs1 cells slots Q (F0 mi (pc + 3) ls (.int r :: rest))) : W p l e R s mi args below meth c H locs cells slots Q (F0 mi pc ls st) :=
  va_calli hr hw.2.2 (zhA hw).1 (zhA hw).2 (fun r u t H1 locs1 ht _ hpo hB _ _ hS => kk r u H1 locs1 hpo (zback C hw ht hB hS))
theorem zafter_l {post : Int64 → ZM → Prop} (C : zX p s mi args c cc own D cy) (hw : zH D cy ad L s.heap H locs m) (hr : va_Run p l e R s mi args below meth c H locs cells slots 0 0 (F0 mi pc ls st) rest (zQl post D cy ad L H.size aa) (zA ad L H.size))
    (kk : ∀ (r : Int64) (m1 : ZM) (H1 : Heap) (locs1 : List Loc), post r m1 → zH D cy ad L s.heap H1 locs1 m1 → W p l e R s mi args below meth c H1 locs1 cells slots Q (F0 mi (pc + 3) ls (.long r :: rest))) : W p l e R s mi args below meth c H locs cells slots Q (F0 mi pc ls st) :=
  va_calll hr hw.2.2 (zhA hw).1 (zhA hw).2 (fun r u t H1 locs1 ht _ hpo hB _ _ hS => kk r u H1 locs1 hpo (zback C hw ht hB hS))
theorem zafter_v {post : ZM → Prop} (C : zX p s mi args c cc own D cy) (hw : zH D cy ad L s.heap H locs m) (hr : va_Run p l e R s mi args below meth c H locs cells slots 0 0 (F0 mi pc ls st) rest (zQv post D cy ad L H.size aa) (zA ad L H.size))
    (kk : ∀ (m1 : ZM) (H1 : Heap) (locs1 : List Loc), post m1 → zH D cy ad L s.heap H1 locs1 m1 → W p l e R s mi args below meth c H1 locs1 cells slots Q (F0 mi (pc + 3) ls rest)) : W p l e R s mi args below meth c H locs cells slots Q (F0 mi pc ls st) :=
  va_callv hr hw.2.2 (zhA hw).1 (zhA hw).2 (fun u t H1 locs1 ht _ hpo hB _ _ hS => kk u H1 locs1 hpo (zback C hw ht hB hS))
theorem zafter_r {post : Nat → ZM → Prop} (C : zX p s mi args c cc own D cy) (hw : zH D cy ad L s.heap H locs m) (hr : va_Run p l e R s mi args below meth c H locs cells slots 0 0 (F0 mi pc ls st) rest (zQr post D cy ad L H.size aa) (zA ad L H.size))
    (kk : ∀ (ra : Nat) (m1 : ZM) (H1 : Heap) (locs1 : List Loc), post ra m1 → zH D cy ad L s.heap H1 locs1 m1 → W p l e R s mi args below meth c H1 locs1 cells slots Q (F0 mi (pc + 3) ls (.ref ra :: rest))) : W p l e R s mi args below meth c H locs cells slots Q (F0 mi pc ls st) :=
  va_callr hr hw.2.2 (zhA hw).1 (zhA hw).2 (fun u ra t H1 locs1 ht _ _ hB _ _ hS => kk ra u H1 locs1 hB.1 (zback C hw ht hB.2 hS))
end ZE
/-! numbers, and rows for what is on the stack -/
section ZT
variable {p : Program} {l : Launch} {e : Env} {R : Room} {s : State} {mi : MethodId} {args : Array Value} {below : List Frame} {meth : Method} {c : Code} {H H0 : Heap} {locs : List Loc} {cells slots : Nat} {Q : State → Prop}
variable {cc : ByteArray} {own : String} {pc : Nat} {ls : Array Slot} {rest : List Value} {D : va_G} {cy : Nat → ClassId} {ad : ZN → Nat} {L : List ZN} {m : ZM} {n : ZN}
theorem ztop {x y : Int32} (h : x = y) (k : W p l e R s mi args below meth c H locs cells slots Q (F0 mi pc ls (.int y :: rest))) : W p l e R s mi args below meth c H locs cells slots Q (F0 mi pc ls (.int x :: rest)) := by rw [h]; exact k
theorem ztopr {x y : Nat} (h : x = y) (k : W p l e R s mi args below meth c H locs cells slots Q (F0 mi pc ls (.ref y :: rest))) : W p l e R s mi args below meth c H locs cells slots Q (F0 mi pc ls (.ref x :: rest)) := by rw [h]; exact k
theorem zix {x : Int32} {k N : Nat} (hx : x = nI k) (hk : k < N) (hN : N < 2 ^ 31) : vp_in x N ∧ x.toNatClampNeg = k := by
  subst hx
  exact ⟨vp_in_nI hk hN, nI_clamp (Nat.lt_trans hk hN)⟩
/-- an array read at a place that is a known number -/
theorem zaldN (C : zX p s mi args c cc own D cy) (hw : zH D cy ad L H0 H locs m) {id len : Nat} (hn : (2, id, len) ∈ L) {i : Int32} (k : Nat) (hk : k < len) (hi : i = nI k) (hlen : len < 2 ^ 31) (hdg : decode cc pc = .ok (.iaload, 1))
    (kk : W p l e R s mi args below meth c H locs cells slots Q (F0 mi (pc + 1) ls (.int (m (2, id, len) k) :: rest))) : W p l e R s mi args below meth c H locs cells slots Q (F0 mi pc ls (.int i :: .ref (ad (2, id, len)) :: rest)) := by
  obtain ⟨h1, h2⟩ := zix hi hk hlen
  rw [← h2] at kk
  exact zald C hw hn h1 hdg kk
theorem zastN (C : zX p s mi args c cc own D cy) (hw : zH D cy ad L H0 H locs m) {id len : Nat} (hn : (2, id, len) ∈ L) {i x : Int32} (k : Nat) (hk : k < len) (hi : i = nI k) (hlen : len < 2 ^ 31) (hdg : decode cc pc = .ok (.iastore, 1))
    (kk : ∀ (H1 : Heap) (locs1 : List Loc) (m1 : ZM), m1 = zs m (2, id, len) k x → zH D cy ad L H0 H1 locs1 m1 → W p l e R s mi args below meth c H1 locs1 cells slots Q (F0 mi (pc + 1) ls rest)) : W p l e R s mi args below meth c H locs cells slots Q (F0 mi pc ls (.int x :: .int i :: .ref (ad (2, id, len)) :: rest)) := by
  obtain ⟨h1, h2⟩ := zix hi hk hlen
  refine zast C hw hn h1 hdg (fun H1 locs1 m1 h => kk H1 locs1 m1 ?_)
  rw [← h2]; exact h
theorem zald_3N (C : zX p s mi args c cc own D cy) (hw : zH D cy ad L H0 H locs m) {a b : Nat} (hn : (3, a, b) ∈ L) {i : Int32} (k : Nat) (hk : k < 4) (hi : i = nI k) (hdg : decode cc pc = .ok (.aaload, 1))
    (kk : W p l e R s mi args below meth c H locs cells slots Q (F0 mi (pc + 1) ls (.ref (ad (4, a, k)) :: rest))) : W p l e R s mi args below meth c H locs cells slots Q (F0 mi pc ls (.int i :: .ref (ad (3, a, b)) :: rest)) := by
  obtain ⟨h1, h2⟩ := zix hi hk (by decide)
  rw [← h2] at kk
  exact zald_3 C hw hn h1 hdg kk
theorem zald_5N (C : zX p s mi args c cc own D cy) (hw : zH D cy ad L H0 H locs m) {a b : Nat} (hn : (5, a, b) ∈ L) {i : Int32} (k : Nat) (hk : k < 4) (hi : i = nI k) (hdg : decode cc pc = .ok (.aaload, 1))
    (kk : W p l e R s mi args below meth c H locs cells slots Q (F0 mi (pc + 1) ls (.ref (ad (6, a, 4 * b + k)) :: rest))) : W p l e R s mi args below meth c H locs cells slots Q (F0 mi pc ls (.int i :: .ref (ad (5, a, b)) :: rest)) := by
  obtain ⟨h1, h2⟩ := zix hi hk (by decide)
  rw [← h2] at kk
  exact zald_5 C hw hn h1 hdg kk
theorem zald_9N (C : zX p s mi args c cc own D cy) (hw : zH D cy ad L H0 H locs m) {a b : Nat} (hn : (9, a, b) ∈ L) {i : Int32} (k : Nat) (hk : k < 30) (hi : i = nI k) (hdg : decode cc pc = .ok (.aaload, 1))
    (kk : W p l e R s mi args below meth c H locs cells slots Q (F0 mi (pc + 1) ls (.ref (ad (10, a, k)) :: rest))) : W p l e R s mi args below meth c H locs cells slots Q (F0 mi pc ls (.int i :: .ref (ad (9, a, b)) :: rest)) := by
  obtain ⟨h1, h2⟩ := zix hi hk (by decide)
  rw [← h2] at kk
  exact zald_9 C hw hn h1 hdg kk
theorem zald_11N (C : zX p s mi args c cc own D cy) (hw : zH D cy ad L H0 H locs m) {a b : Nat} (hn : (11, a, b) ∈ L) {i : Int32} (k : Nat) (hk : k < 3) (hi : i = nI k) (hdg : decode cc pc = .ok (.aaload, 1))
    (kk : W p l e R s mi args below meth c H locs cells slots Q (F0 mi (pc + 1) ls (.ref (ad (7, a, 42 + k)) :: rest))) : W p l e R s mi args below meth c H locs cells slots Q (F0 mi pc ls (.int i :: .ref (ad (11, a, b)) :: rest)) := by
  obtain ⟨h1, h2⟩ := zix hi hk (by decide)
  rw [← h2] at kk
  exact zald_11 C hw hn h1 hdg kk
end ZT
/-- System.arraycopy of a whole array of ints to another one -/
def zcp (m : ZM) (n v : ZN) (len : Nat) : ZM := zu m v (va_cpy (m n) (m v) 0 0 len)
theorem zcopy {p : Program} {l : Launch} {e : Env} {R : Room} {s : State} {mi : MethodId} {args : Array Value} {below : List Frame} {meth : Method} {c : Code} {H H0 : Heap} {locs : List Loc} {cells slots : Nat} {Q : State → Prop}
    {cc : ByteArray} {own : String} {pc index : Nat} {ls : Array Slot} {rest : List Value} {D : va_G} {cy : Nat → ClassId} {ad : ZN → Nat} {L : List ZN} {m : ZM} (C : zX p s mi args c cc own D cy) (hml : c.maxLocals = ls.size) (hw : zH D cy ad L H0 H locs m)
    (hlink : Cond.methodLink own index arraycopyName ∈ wsL_law) (hnat : Cond.native arraycopyName ∈ wsL_law) (hstat : Cond.static arraycopyName ∈ wsL_law) (hini : Cond.initialized "java/lang/System" ∈ wsL_law)
    {i0 i1 len : Nat} (h0 : (2, i0, len) ∈ L) (h1 : (2, i1, len) ∈ L) {n : Int32} (hn : n = nI len) (hlen : len < 2 ^ 31) (hframes : 1 ≤ R.frames) (hlocals : (rest.map fun v => v.category).sum + (nativeFrameWords "java/lang/System" "arraycopy" 5 + 11) ≤ R.locals) (hdg : decode cc pc = .ok (.invokestatic index, 3))
    (kk : ∀ (H1 : Heap) (locs1 : List Loc) (m1 : ZM), m1 = zcp m (2, i0, len) (2, i1, len) len → zH D cy ad L H0 H1 locs1 m1 → W p l e R s mi args below meth c H1 locs1 cells slots Q (F0 mi (pc + 3) ls rest)) :
    W p l e R s mi args below meth c H locs cells slots Q (F0 mi pc ls (.int n :: .int 0 :: .ref (ad (2, i1, len)) :: .int 0 :: .ref (ad (2, i0, len)) :: rest)) := by
  obtain ⟨hx, hb, hts, hown, hK, hNw⟩ := C
  obtain ⟨k0, -, e0⟩ := zw_get (cy := cy) (ad := ad) (m := m) h0
  obtain ⟨k1, hk1, e1⟩ := zw_get (cy := cy) (ad := ad) (m := m) h1
  have hc : n.toNatClampNeg = len := by rw [hn]; exact nI_clamp hlen
  refine va_copyi hx hb hml hown (hts _ hlink) (hts _ hnat) (hts _ hstat) (hts _ hini) hK hw.1 hw.2.1 hw.2.2 k0 k1 0 0 (f := m (2, i0, len)) (g := m (2, i1, len)) (ty := .int) e0 e1 rfl rfl rfl (by decide) (by decide) (by rw [hn]; exact nI_pos hlen) (by rw [hc]; exact Nat.le_of_eq (Nat.zero_add _)) (by rw [hc]; exact Nat.le_of_eq (Nat.zero_add _)) (fun i _ => rfl) hframes hlocals hdg (fun H1 locs1 hP hD hS => ?_)
  rw [hc] at hP hD
  exact kk H1 locs1 _ rfl (zH_set (n := (2, i1, len)) (w := va_cpy (m (2, i0, len)) (m (2, i1, len)) 0 0 len) hw hk1 hP hD hS)
theorem zadd {x y : Int32} {a b : Nat} (h1 : x = nI a) (h2 : y = nI b) : x + y = nI (a + b) := by rw [h1, h2, nI_add]
theorem zmul {x y : Int32} {a b : Nat} (h1 : x = nI a) (h2 : y = nI b) : x * y = nI (a * b) := by rw [h1, h2, pk_mul]
theorem zsub {x y : Int32} {a b : Nat} (h1 : x = nI a) (h2 : y = nI b) (h : b ≤ a) : x - y = nI (a - b) := by rw [h1, h2, pk_sub h]
theorem zle {x y : Int32} {a b : Nat} (h : x ≤ y) (h1 : x = nI a) (h2 : y = nI b) (ha : a < 2 ^ 31) (hb : b < 2 ^ 31) : a ≤ b := by rw [h1, h2] at h; exact (nI_leI ha hb).mp h
theorem znle {x y : Int32} {a b : Nat} (h : ¬ x ≤ y) (h1 : x = nI a) (h2 : y = nI b) (ha : a < 2 ^ 31) (hb : b < 2 ^ 31) : b < a := by rw [h1, h2, nI_leI ha hb] at h; omega
theorem zlt {x y : Int32} {a b : Nat} (h : x < y) (h1 : x = nI a) (h2 : y = nI b) (ha : a < 2 ^ 31) (hb : b < 2 ^ 31) : a < b := by rw [h1, h2] at h; exact (nI_ltI ha hb).mp h
theorem znlt {x y : Int32} {a b : Nat} (h : ¬ x < y) (h1 : x = nI a) (h2 : y = nI b) (ha : a < 2 ^ 31) (hb : b < 2 ^ 31) : b ≤ a := by rw [h1, h2, nI_ltI ha hb] at h; omega
theorem zeq {x y : Int32} {a b : Nat} (h : x = y) (h1 : x = nI a) (h2 : y = nI b) (ha : a < 2 ^ 31) (hb : b < 2 ^ 31) : a = b := by rw [h1, h2] at h; exact (nI_eq ha hb).mp h
theorem zne {x y : Int32} {a b : Nat} (h : ¬ x = y) (h1 : x = nI a) (h2 : y = nI b) (ha : a < 2 ^ 31) (hb : b < 2 ^ 31) : a ≠ b := by rw [h1, h2, nI_eq ha hb] at h; exact h
/-! which names there are -/
def zok2 (a b : Nat) : Prop := (a < 2 ∧ b = 24) ∨ (a = 60 ∧ b = 2) ∨ ∃ w, w < 2 ∧ ((a = 10 + 20 * w ∧ b = 24) ∨ (a = 11 + 20 * w ∧ b = 4) ∨ (a = 12 + 20 * w ∧ b = 16) ∨ (a = 13 + 20 * w ∧ b = 16) ∨ (a = 14 + 20 * w ∧ b = 16) ∨ (a = 15 + 20 * w ∧ b = 4) ∨ (a = 16 + 20 * w ∧ b = 4) ∨ (a = 17 + 20 * w ∧ b = 4) ∨ (a = 18 + 20 * w ∧ b = 4) ∨ (a = 19 + 20 * w ∧ b = 24) ∨ (a = 20 + 20 * w ∧ b = 90) ∨ (a = 21 + 20 * w ∧ b = 6))
def zok (n : ZN) : Prop := match n.1 with
  | 0 => n.2 = (0, 0)
  | 1 => n.2.1 < 2 ∧ n.2.2 = 0
  | 2 => zok2 n.2.1 n.2.2
  | 3 => n.2.1 < 2 ∧ n.2.2 = 0
  | 4 => n.2.1 < 2 ∧ n.2.2 < 4
  | 5 => n.2.1 < 2 ∧ n.2.2 < 4
  | 6 => n.2.1 < 2 ∧ n.2.2 < 16
  | 7 => n.2.1 < 2 ∧ n.2.2 < 47
  | 8 => n.2.1 < 2 ∧ n.2.2 = 0
  | 9 => n.2.1 < 2 ∧ n.2.2 = 0
  | 10 => n.2.1 < 2 ∧ n.2.2 < 30
  | 11 => n.2.1 < 2 ∧ n.2.2 = 0
  | 12 => n.2 = (0, 0)
  | 13 => n.2.1 < 2 ∧ n.2.2 = 0
  | 14 => n.2 = (0, 0)
  | _ => False
def zL (L : List ZN) : Prop := ∀ n, zok n → n ∈ L
section ZL
variable {L : List ZN} {w b : Nat}
theorem zn0 (hL : zL L) : (0, 0, 0) ∈ L := hL (0, 0, 0) rfl
theorem zn1 (hL : zL L) (hw : w < 2) : (1, w, 0) ∈ L := hL (1, w, 0) ⟨hw, rfl⟩
theorem zn2 (hL : zL L) (hw : w < 2) : (2, w, 24) ∈ L := hL (2, w, 24) (Or.inl ⟨hw, rfl⟩)
theorem zn2s (hL : zL L) : (2, 60, 2) ∈ L := hL (2, 60, 2) (Or.inr (Or.inl ⟨rfl, rfl⟩))
theorem zn3 (hL : zL L) (hw : w < 2) : (3, w, 0) ∈ L := hL (3, w, 0) ⟨hw, rfl⟩
theorem zn4 (hL : zL L) (hw : w < 2) (hb : b < 4) : (4, w, b) ∈ L := hL (4, w, b) ⟨hw, hb⟩
theorem zn5 (hL : zL L) (hw : w < 2) (hb : b < 4) : (5, w, b) ∈ L := hL (5, w, b) ⟨hw, hb⟩
theorem zn6 (hL : zL L) (hw : w < 2) (hb : b < 16) : (6, w, b) ∈ L := hL (6, w, b) ⟨hw, hb⟩
theorem zn7 (hL : zL L) (hw : w < 2) (hb : b < 47) : (7, w, b) ∈ L := hL (7, w, b) ⟨hw, hb⟩
theorem zn8 (hL : zL L) (hw : w < 2) : (8, w, 0) ∈ L := hL (8, w, 0) ⟨hw, rfl⟩
theorem zn9 (hL : zL L) (hw : w < 2) : (9, w, 0) ∈ L := hL (9, w, 0) ⟨hw, rfl⟩
theorem zn10 (hL : zL L) (hw : w < 2) (hb : b < 30) : (10, w, b) ∈ L := hL (10, w, b) ⟨hw, hb⟩
theorem zn11 (hL : zL L) (hw : w < 2) : (11, w, 0) ∈ L := hL (11, w, 0) ⟨hw, rfl⟩
theorem zn12 (hL : zL L) : (12, 0, 0) ∈ L := hL (12, 0, 0) rfl
theorem zn13 (hL : zL L) (hw : w < 2) : (13, w, 0) ∈ L := hL (13, w, 0) ⟨hw, rfl⟩
theorem zn14 (hL : zL L) : (14, 0, 0) ∈ L := hL (14, 0, 0) rfl
theorem zq10 (hL : zL L) (hw : w < 2) : (2, 10 + 20 * w, 24) ∈ L := hL _ (Or.inr (Or.inr ⟨w, hw, by simp⟩))
theorem zq11 (hL : zL L) (hw : w < 2) : (2, 11 + 20 * w, 4) ∈ L := hL _ (Or.inr (Or.inr ⟨w, hw, by simp⟩))
theorem zq12 (hL : zL L) (hw : w < 2) : (2, 12 + 20 * w, 16) ∈ L := hL _ (Or.inr (Or.inr ⟨w, hw, by simp⟩))
theorem zq13 (hL : zL L) (hw : w < 2) : (2, 13 + 20 * w, 16) ∈ L := hL _ (Or.inr (Or.inr ⟨w, hw, by simp⟩))
theorem zq14 (hL : zL L) (hw : w < 2) : (2, 14 + 20 * w, 16) ∈ L := hL _ (Or.inr (Or.inr ⟨w, hw, by simp⟩))
theorem zq15 (hL : zL L) (hw : w < 2) : (2, 15 + 20 * w, 4) ∈ L := hL _ (Or.inr (Or.inr ⟨w, hw, by simp⟩))
theorem zq16 (hL : zL L) (hw : w < 2) : (2, 16 + 20 * w, 4) ∈ L := hL _ (Or.inr (Or.inr ⟨w, hw, by simp⟩))
theorem zq17 (hL : zL L) (hw : w < 2) : (2, 17 + 20 * w, 4) ∈ L := hL _ (Or.inr (Or.inr ⟨w, hw, by simp⟩))
theorem zq18 (hL : zL L) (hw : w < 2) : (2, 18 + 20 * w, 4) ∈ L := hL _ (Or.inr (Or.inr ⟨w, hw, by simp⟩))
theorem zq19 (hL : zL L) (hw : w < 2) : (2, 19 + 20 * w, 24) ∈ L := hL _ (Or.inr (Or.inr ⟨w, hw, by simp⟩))
theorem zq20 (hL : zL L) (hw : w < 2) : (2, 20 + 20 * w, 90) ∈ L := hL _ (Or.inr (Or.inr ⟨w, hw, by simp⟩))
theorem zq21 (hL : zL L) (hw : w < 2) : (2, 21 + 20 * w, 6) ∈ L := hL _ (Or.inr (Or.inr ⟨w, hw, by simp⟩))
end ZL

theorem zsw11 {x : Int32} (h0 : ¬ x = 0) (h1 : ¬ x = 1) (h2 : ¬ x = 2) (h3 : ¬ x = 3) (h4 : ¬ x = 4) (h5 : ¬ x = 5) (h6 : ¬ x = 6) (h7 : ¬ x = 7) (h8 : ¬ x = 8) (h9 : ¬ x = 9) (h10 : ¬ x = 10) : x.toInt < 0 ∨ 10 < x.toInt := by
  have g0 := lv_neT h0 (a := 0) rfl
  have g1 := lv_neT h1 (a := 1) rfl
  have g2 := lv_neT h2 (a := 2) rfl
  have g3 := lv_neT h3 (a := 3) rfl
  have g4 := lv_neT h4 (a := 4) rfl
  have g5 := lv_neT h5 (a := 5) rfl
  have g6 := lv_neT h6 (a := 6) rfl
  have g7 := lv_neT h7 (a := 7) rfl
  have g8 := lv_neT h8 (a := 8) rfl
  have g9 := lv_neT h9 (a := 9) rfl
  have g10 := lv_neT h10 (a := 10) rfl
  omega
theorem zsw13 {x : Int32} (h0 : ¬ x = 0) (h1 : ¬ x = 1) (h2 : ¬ x = 2) (h3 : ¬ x = 3) (h4 : ¬ x = 4) (h5 : ¬ x = 5) (h6 : ¬ x = 6) (h7 : ¬ x = 7) (h8 : ¬ x = 8) (h9 : ¬ x = 9) (h10 : ¬ x = 10) (h11 : ¬ x = 11) (h12 : ¬ x = 12) : x.toInt < 0 ∨ 12 < x.toInt := by
  have g0 := lv_neT h0 (a := 0) rfl
  have g1 := lv_neT h1 (a := 1) rfl
  have g2 := lv_neT h2 (a := 2) rfl
  have g3 := lv_neT h3 (a := 3) rfl
  have g4 := lv_neT h4 (a := 4) rfl
  have g5 := lv_neT h5 (a := 5) rfl
  have g6 := lv_neT h6 (a := 6) rfl
  have g7 := lv_neT h7 (a := 7) rfl
  have g8 := lv_neT h8 (a := 8) rfl
  have g9 := lv_neT h9 (a := 9) rfl
  have g10 := lv_neT h10 (a := 10) rfl
  have g11 := lv_neT h11 (a := 11) rfl
  have g12 := lv_neT h12 (a := 12) rfl
  omega
