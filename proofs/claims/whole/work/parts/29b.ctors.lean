/-! the constructors (by program: wip/whole/sp21.py) -/
set_option maxHeartbeats 4000000 in
set_option maxRecDepth 100000 in
theorem c_X3_init (l : Launch) (D : va_G) (cy : Nat → ClassId) (h0 sz : Nat) : Met l yX3_init (zws yX3_init cX3_init 1 none) ({ frames := 1, cells := 0, slots := 0, locals := 12 } : Room) (kPc D cy h0 sz 3 [.int 0, .int 0]) (kQ D cy h0 sz (fun Z => Z = [kOre h0])) 0 0 (kA h0 sz) := by
  refine kopen (Qc := fun sz => kQ D cy h0 sz (fun Z => Z = [kOre h0])) RX3 (by decide +kernel) rfl rfl (Nat.le_of_ble_eq_true rfl) ?_
  intro p e s mi below meth c ls C hAO hin hr hlocks hml hl H locs hP hD hS
  obtain ⟨hx, hb, hts, hown, hK, hNw⟩ := id C
  have hA : ∀ q : Nat, s.heap.size ≤ q → kA h0 s.heap.size q := fun q h => Or.inr h
  refine lv_aload_n hx hb dX3_init_0 rfl (lv_at hl 0 rfl) ?_
  refine W.objInit hx hb hown (hts _ (zr_3 _ (List.mem_of_getElem? (i := 11) rfl))) (hts _ (zr_1 _ (List.mem_of_getElem? (i := 11) rfl))) (hts _ (zr_1 _ (List.mem_of_getElem? (i := 12) rfl))) rfl (by rw [hml]; exact hl.1) rfl dX3_init_1 (Nat.le_of_ble_eq_true rfl) (Nat.le_of_ble_eq_true rfl) ?_
  refine W.eq (g2 := F0 mi 4 ls []) rfl ?_
  exact kret C hr hlocks hP hD hS dX3_init_4 rfl

set_option maxHeartbeats 4000000 in
set_option maxRecDepth 100000 in
theorem c_X4_init (l : Launch) (D : va_G) (cy : Nat → ClassId) (h0 sz : Nat) : Met l yX4_init (zws yX4_init cX4_init 1 none) ({ frames := 1, cells := 0, slots := 0, locals := 12 } : Room) (kPc D cy h0 sz 4 [.int 0, .int 0, .int 0]) (kQ D cy h0 sz (fun Z => Z = [kStamp h0])) 0 0 (kA h0 sz) := by
  refine kopen (Qc := fun sz => kQ D cy h0 sz (fun Z => Z = [kStamp h0])) RX4 (by decide +kernel) rfl rfl (Nat.le_of_ble_eq_true rfl) ?_
  intro p e s mi below meth c ls C hAO hin hr hlocks hml hl H locs hP hD hS
  obtain ⟨hx, hb, hts, hown, hK, hNw⟩ := id C
  have hA : ∀ q : Nat, s.heap.size ≤ q → kA h0 s.heap.size q := fun q h => Or.inr h
  refine lv_aload_n hx hb dX4_init_0 rfl (lv_at hl 0 rfl) ?_
  refine W.objInit hx hb hown (hts _ (zr_3 _ (List.mem_of_getElem? (i := 8) rfl))) (hts _ (zr_1 _ (List.mem_of_getElem? (i := 11) rfl))) (hts _ (zr_1 _ (List.mem_of_getElem? (i := 12) rfl))) rfl (by rw [hml]; exact hl.1) rfl dX4_init_1 (Nat.le_of_ble_eq_true rfl) (Nat.le_of_ble_eq_true rfl) ?_
  refine W.eq (g2 := F0 mi 4 ls []) rfl ?_
  exact kret C hr hlocks hP hD hS dX4_init_4 rfl

theorem zk_X2_9 : kGN RX2 9 yX3_init cX3_init 1 := ⟨kgood (zr_3 _ (List.mem_of_getElem? (i := 10) rfl)), (zr_2 _ (List.mem_of_getElem? (i := 11) rfl)), znestM_at 2 rfl, (zr_3 _ (List.mem_of_getElem? (i := 9) rfl)), by decide +kernel⟩
set_option maxHeartbeats 4000000 in
set_option maxRecDepth 100000 in
theorem c_X2_init (l : Launch) (D : va_G) (cy : Nat → ClassId) (h0 sz : Nat) : Met l yX2_init (zws yX2_init cX2_init 1 none) ({ frames := 2, cells := 1, slots := 2, locals := 32 } : Room) (kPc D cy h0 sz 2 [.null, .int 0]) (kQ D cy h0 sz (fun Z => ∃ a, Z = [(h0, .inr (2, [.ref a, .int 0])), kOre a])) 1 2 (kA h0 sz) := by
  refine kopen (Qc := fun sz => kQ D cy h0 sz (fun Z => ∃ a, Z = [(h0, .inr (2, [.ref a, .int 0])), kOre a])) RX2 (by decide +kernel) rfl rfl (Nat.le_of_ble_eq_true rfl) ?_
  intro p e s mi below meth c ls C hAO hin hr hlocks hml hl H locs hP hD hS
  obtain ⟨hx, hb, hts, hown, hK, hNw⟩ := id C
  have hA : ∀ q : Nat, s.heap.size ≤ q → kA h0 s.heap.size q := fun q h => Or.inr h
  refine lv_aload_n hx hb dX2_init_0 rfl (lv_at hl 0 rfl) ?_
  refine W.objInit hx hb hown (hts _ (zr_3 _ (List.mem_of_getElem? (i := 23) rfl))) (hts _ (zr_1 _ (List.mem_of_getElem? (i := 11) rfl))) (hts _ (zr_1 _ (List.mem_of_getElem? (i := 12) rfl))) rfl (by rw [hml]; exact hl.1) rfl dX2_init_1 (Nat.le_of_ble_eq_true rfl) (Nat.le_of_ble_eq_true rfl) ?_
  refine W.eq (g2 := F0 mi 4 ls []) rfl ?_
  refine lv_aload_n hx hb dX2_init_4 rfl (lv_at hl 0 rfl) ?_
  refine va_new (ci := 3) (fs := [.int 0, .int 0]) (C := RX3) (T := TX3) (N := 2) (ws := [(h0, .inr (2, [.null, .int 0]))]) hx hb hts inlX3 tyX3 tyX3_ok hown (hts _ (zr_4 _ (List.mem_of_getElem? (i := 0) rfl))) (hts _ (zr_2 _ (List.mem_of_getElem? (i := 10) rfl))) (hts _ (zr_2 _ (List.mem_of_getElem? (i := 11) rfl))) hK hP hD hS hA rfl (fun j hj => by rcases (show j = 0 ∨ j = 1 by omega) with rfl | rfl <;> rfl) (show 0 + 1 ≤ 1 by omega) (show 0 + 2 ≤ 2 by omega) dX2_init_5 (fun q1 H hP hD hS => ?_)
  refine lv_dup hx hb dX2_init_8 rfl ?_
  refine kafter (X := [(h0, .inr (2, [.null, .int 0]))]) (q := q1) (e0 := .inr (3, [.int 0, .int 0])) hA hP hD hS (krunIN (X := [(h0, .inr (2, [.null, .int 0]))]) (rest := [.ref q1, .ref h0]) C hAO hml hl.1 hP (c_X3_init l D cy q1 H.size) zk_X2_9 rfl rfl ⟨Nat.le_of_ble_eq_true rfl, Nat.le_of_ble_eq_true rfl⟩ (Nat.le_of_ble_eq_true rfl) dX2_init_9 ⟨(show 0 + 1 + 0 ≤ 1 by omega), (show 0 + 2 + 0 ≤ 2 by omega)⟩) (fun Zz2 H locs hz2 hP hD hS => ?_)
  subst hz2
  have hP : va_P D vwCl ((h0, .inr (2, [.null, .int 0])) :: ([kOre q1])) H := hP
  have hD : va_D (kA h0 s.heap.size) ((h0, .inr (2, [.null, .int 0])) :: ([kOre q1])) := hD
  refine va_putF (ws := (h0, .inr (2, [.null, .int 0])) :: ([kOre q1])) (v := .ref q1) hx hb hts inlX2 tyX2 tyX2_ok nmX2 hown hK hP hD hS 0 rfl rfl 0 (by decide) (hts _ (zr_4 _ (List.mem_of_getElem? (i := 1) rfl))) (fun _ h => h) rfl hin rfl rfl rfl rfl (Nat.le_of_ble_eq_true rfl) dX2_init_12 (fun H locs hP hD hS => ?_)
  have hP : va_P D vwCl ((h0, .inr (2, [.ref q1, .int 0])) :: ([kOre q1])) H := hP
  have hD : va_D (kA h0 s.heap.size) ((h0, .inr (2, [.ref q1, .int 0])) :: ([kOre q1])) := hD
  refine W.widen (k := 1) (n := 2) (by omega) (by omega) ?_
  exact kret C hr hlocks hP hD hS dX2_init_15 ⟨_, rfl⟩

theorem kget2 {a b c : Nat × va_E} {Y Z : va_W} : (a :: b :: (Y ++ (c :: Z)))[Y.length + 2]? = some c := by
  show (Y ++ (c :: Z))[Y.length]? = some c
  rw [List.getElem?_append_right (Nat.le_refl _), Nat.sub_self]
  rfl
theorem kget3 {a b d c : Nat × va_E} {Y Z : va_W} : (a :: b :: d :: (Y ++ (c :: Z)))[Y.length + 3]? = some c := by
  show (Y ++ (c :: Z))[Y.length]? = some c
  rw [List.getElem?_append_right (Nat.le_refl _), Nat.sub_self]
  rfl
theorem kget4 {a b d e c : Nat × va_E} {Y Z : va_W} : (a :: b :: d :: e :: (Y ++ (c :: Z)))[Y.length + 4]? = some c := by
  show (Y ++ (c :: Z))[Y.length]? = some c
  rw [List.getElem?_append_right (Nat.le_refl _), Nat.sub_self]
  rfl
def kup (U : Nat → Nat) (i q : Nat) : Nat → Nat := fun j => if j = i then q else U j
theorem kup_s {U : Nat → Nat} {i q : Nat} : kup U i q i = q := if_pos rfl
theorem kup_n {U : Nat → Nat} {i q j : Nat} (h : j ≠ i) : kup U i q j = U j := if_neg h
theorem kup_f {f : Nat → Option Nat} {U : Nat → Nat} {x : Int32} {i q : Nat} (ex : x = nI i) (hi : i < 2 ^ 31) (hf : ∀ j, j < i → f j = some (U j)) : ∀ j, j < i + 1 → va_up f x.toNatClampNeg (some q) j = some (kup U i q j) := by
  intro j hj
  rw [ex, nI_clamp hi]
  by_cases e : j = i
  · subst e
    rw [va_up_self, kup_s]
  · rw [va_up_ne _ _ e, kup_n e, hf j (by omega)]
theorem kpush3 {U : Nat → Nat} {i q : Nat} : kOres U i ++ [kOre q] = kOres (kup U i q) (i + 1) := by
  rw [kOres, kup_s, kOres_c (U := kup U i q) (V := U) (fun j hj => kup_n (by omega))]
theorem kpush4 {U : Nat → Nat} {i q : Nat} : kStamps U i ++ [kStamp q] = kStamps (kup U i q) (i + 1) := by
  rw [kStamps, kup_s, kStamps_c (U := kup U i q) (V := U) (fun j hj => kup_n (by omega))]
theorem kpush2 {U V : Nat → Nat} {i q a : Nat} : kLots U V i ++ [(q, .inr (2, [.ref a, .int 0])), kOre a] = kLots (kup U i q) (kup V i a) (i + 1) := by
  rw [kLots, kup_s, kup_s, kLots_c (La := kup U i q) (Lb := U) (Ra := kup V i a) (Rb := V) (fun j hj => ⟨kup_n (by omega), kup_n (by omega)⟩)]
theorem kpush0 {V : Nat → va_W} {i : Nat} {Z : va_W} : kCat V i ++ Z = kCat (va_up V i Z) (i + 1) := by
  rw [kCat, va_up_self, kCat_c (B := va_up V i Z) (B' := V) (fun j hj => va_up_ne _ _ (by omega))]
theorem kbx {cy : Nat → ClassId} {U : Nat → Nat} {V : Nat → va_W} {i q : Nat} {Z : va_W} (hZ : kBox cy q Z) (hB : ∀ j, j < i → kBox cy (U j) (V j)) : ∀ j, j < i + 1 → kBox cy (kup U i q j) (va_up V i Z j) := by
  intro j hj
  by_cases e : j = i
  · subst e
    rw [kup_s, va_up_self]
    exact hZ
  · rw [kup_n e, va_up_ne _ _ e]
    exact hB j (by omega)

theorem zk_X1_17 : kGI RX1 17 yX2_init cX2_init 1 := ⟨kgood (zr_3 _ (List.mem_of_getElem? (i := 22) rfl)), (zr_3 _ (List.mem_of_getElem? (i := 19) rfl)), (zr_3 _ (List.mem_of_getElem? (i := 20) rfl)), (zr_3 _ (List.mem_of_getElem? (i := 21) rfl)), by decide +kernel⟩
set_option maxHeartbeats 4000000 in
set_option maxRecDepth 100000 in
theorem c_X1_init (l : Launch) (D : va_G) (cy : Nat → ClassId) (h0 sz : Nat) : Met l yX1_init (zws yX1_init cX1_init 2 none) ({ frames := 3, cells := 61, slots := 150, locals := 52 } : Room) (kPc D cy h0 sz 1 [.null, .int 0, .int 0]) (kQ D cy h0 sz (kHop cy h0)) 61 150 (kA h0 sz) := by
  refine kopen (Qc := fun sz => kQ D cy h0 sz (kHop cy h0)) RX1 (by decide +kernel) rfl rfl (Nat.le_of_ble_eq_true rfl) ?_
  intro p e s mi below meth c ls C hAO hin hr hlocks hml hl H locs hP hD hS
  obtain ⟨hx, hb, hts, hown, hK, hNw⟩ := id C
  have hA : ∀ q : Nat, s.heap.size ≤ q → kA h0 s.heap.size q := fun q h => Or.inr h
  refine lv_aload_n hx hb dX1_init_0 rfl (lv_at hl 0 rfl) ?_
  refine W.objInit hx hb hown (hts _ (zr_3 _ (List.mem_of_getElem? (i := 15) rfl))) (hts _ (zr_1 _ (List.mem_of_getElem? (i := 11) rfl))) (hts _ (zr_1 _ (List.mem_of_getElem? (i := 12) rfl))) rfl (by rw [hml]; exact hl.1) rfl dX1_init_1 (Nat.le_of_ble_eq_true rfl) (Nat.le_of_ble_eq_true rfl) ?_
  refine W.eq (g2 := F0 mi 4 ls []) rfl ?_
  refine lv_aload_n hx hb dX1_init_4 rfl (lv_at hl 0 rfl) ?_
  refine lv_bipush (v := 30) hx hb dX1_init_5 (by decide) ?_
  refine va_newq (C := "StampWorks$Lot") (N' := 30) (ws := [(h0, .inr (1, [.null, .int 0, .int 0]))]) hx hb hown (hts _ (zr_3 _ (List.mem_of_getElem? (i := 16) rfl))) hAO.2.1 hK hP hD hS hA (by decide) rfl (by decide) (show 0 + 1 ≤ 61 by omega) (show 0 + 30 ≤ 150 by omega) dX1_init_7 (fun q1 cA H hK9 hP hD hS => ?_)
  obtain rfl := kcyQ 2 rfl hK9
  have hP : va_P D vwCl ([(h0, .inr (1, [.null, .int 0, .int 0])), (q1, .inl (cy 2, 30, .inr (.inr (.inr (.inr (fun _ => none))))))]) H := hP
  have hD : va_D (kA h0 s.heap.size) ([(h0, .inr (1, [.null, .int 0, .int 0])), (q1, .inl (cy 2, 30, .inr (.inr (.inr (.inr (fun _ => none))))))]) := hD
  refine va_putF (ws := [(h0, .inr (1, [.null, .int 0, .int 0])), (q1, .inl (cy 2, 30, .inr (.inr (.inr (.inr (fun _ => none))))))]) (v := .ref q1) hx hb hts inlX1 tyX1 tyX1_ok nmX1 hown hK hP hD hS 0 rfl rfl 0 (by decide) (hts _ (zr_3 _ (List.mem_of_getElem? (i := 17) rfl))) (fun _ h => h) rfl hin rfl rfl rfl rfl (Nat.le_of_ble_eq_true rfl) dX1_init_10 (fun H locs hP hD hS => ?_)
  have hP : va_P D vwCl ([(h0, .inr (1, [.ref q1, .int 0, .int 0])), (q1, .inl (cy 2, 30, .inr (.inr (.inr (.inr (fun _ => none))))))]) H := hP
  have hD : va_D (kA h0 s.heap.size) ([(h0, .inr (1, [.ref q1, .int 0, .int 0])), (q1, .inl (cy 2, 30, .inr (.inr (.inr (.inr (fun _ => none))))))]) := hD
  refine lv_iconst (v := 0) hx hb dX1_init_13 (by decide) ?_
  refine lv_istore_n (lv' := [(1, .int 0), (0, .ref h0)]) hx hb dX1_init_14 rfl hl (by decide) rfl (fun ls hl => ?_)
  refine W.widen (k := 1) (n := 30) (by omega) (by omega) ?_
  have done : ∀ (x : Int32) (f : Nat → Option Nat) (U V : Nat → Nat), (∀ j, j < 30 → f j = some (U j)) → ∀ (H : Heap) (locs : List Loc) (ls : Array Slot), va_P D vwCl ((h0, .inr (1, [.ref q1, .int 0, .int 0])) :: (q1, .inl (cy 2, 30, .inr (.inr (.inr (.inr (f)))))) :: (kLots U V 30)) H → va_D (kA h0 s.heap.size) ((h0, .inr (1, [.ref q1, .int 0, .int 0])) :: (q1, .inl (cy 2, 30, .inr (.inr (.inr (.inr (f)))))) :: (kLots U V 30)) → va_S (kA h0 s.heap.size) s.heap H locs → lv_has ls 2 [(1, .int x), (0, .ref h0)] → W p l e ({ frames := 3, cells := 61, slots := 150, locals := 52 } : Room) s mi [Value.ref h0].toArray below meth c H locs (1 + 2 * 30) (30 + 4 * 30) (MQ below (kQ D cy h0 s.heap.size (kHop cy h0)) [Value.ref h0].toArray s 61 150 (kA h0 s.heap.size)) (F0 mi 40 ls []) := by
    intro x f U V hf H locs ls hP hD hS hl
    refine W.widen (k := 61) (n := 150) (by omega) (by omega) ?_
    exact kret C hr hlocks hP hD hS dX1_init_40 ⟨_, f, U, V, rfl, hf⟩
  have loop : ∀ (k i : Nat), i + k = 30 → ∀ (x : Int32), x = nI i → ∀ (f : Nat → Option Nat) (U V : Nat → Nat), (∀ j, j < i → f j = some (U j)) → ∀ (H : Heap) (locs : List Loc) (ls : Array Slot), va_P D vwCl ((h0, .inr (1, [.ref q1, .int 0, .int 0])) :: (q1, .inl (cy 2, 30, .inr (.inr (.inr (.inr (f)))))) :: (kLots U V i)) H → va_D (kA h0 s.heap.size) ((h0, .inr (1, [.ref q1, .int 0, .int 0])) :: (q1, .inl (cy 2, 30, .inr (.inr (.inr (.inr (f)))))) :: (kLots U V i)) → va_S (kA h0 s.heap.size) s.heap H locs → lv_has ls 2 [(1, .int x), (0, .ref h0)] → W p l e ({ frames := 3, cells := 61, slots := 150, locals := 52 } : Room) s mi [Value.ref h0].toArray below meth c H locs (1 + 2 * i) (30 + 4 * i) (MQ below (kQ D cy h0 s.heap.size (kHop cy h0)) [Value.ref h0].toArray s 61 150 (kA h0 s.heap.size)) (F0 mi 15 ls []) := by
    intro k
    induction k with
    | zero =>
      intro i hi x ex f U V hf H locs ls hP hD hS hl
      have hi : i = 30 := by omega
      refine lv_iload_n hx hb dX1_init_15 rfl (lv_at hl 0 rfl) ?_
      refine lv_bipush (v := 30) hx hb dX1_init_16 (by decide) ?_
      refine lv_icmp_ge (tgt := 40) hx hb dX1_init_18 (by decide) (fun _ => ?_) (fun cc => absurd (show (30 : Int32) ≤ x by rw [ex, hi]; decide) cc)
      subst hi
      exact done x f U V hf H locs ls hP hD hS hl
    | succ k ih =>
      intro i hi x ex f U V hf H locs ls hP hD hS hl
      refine lv_iload_n hx hb dX1_init_15 rfl (lv_at hl 0 rfl) ?_
      refine lv_bipush (v := 30) hx hb dX1_init_16 (by decide) ?_
      refine lv_icmp_ge (tgt := 40) hx hb dX1_init_18 (by decide) (fun cc => absurd (zle cc (a := 30) rfl ex (by decide) (by omega)) (by omega)) (fun _ => ?_)
      refine lv_aload_n hx hb dX1_init_21 rfl (lv_at hl 1 rfl) ?_
      refine va_get (ws := (h0, .inr (1, [.ref q1, .int 0, .int 0])) :: (q1, .inl (cy 2, 30, .inr (.inr (.inr (.inr (f)))))) :: (kLots U V i)) hx hb hts inlX1 hown hK hP 0 rfl rfl 0 (by decide) (hts _ (zr_3 _ (List.mem_of_getElem? (i := 17) rfl))) (fun _ h => h) rfl dX1_init_22 ?_
      refine lv_iload_n hx hb dX1_init_25 rfl (lv_at hl 0 rfl) ?_
      refine va_new (ci := 2) (fs := [.null, .int 0]) (C := RX2) (T := TX2) (N := 2) (ws := (h0, .inr (1, [.ref q1, .int 0, .int 0])) :: (q1, .inl (cy 2, 30, .inr (.inr (.inr (.inr (f)))))) :: (kLots U V i)) hx hb hts inlX2 tyX2 tyX2_ok hown (hts _ (zr_3 _ (List.mem_of_getElem? (i := 16) rfl))) (hts _ (zr_3 _ (List.mem_of_getElem? (i := 18) rfl))) (hts _ (zr_3 _ (List.mem_of_getElem? (i := 19) rfl))) hK hP hD hS hA rfl (fun j hj => by rcases (show j = 0 ∨ j = 1 by omega) with rfl | rfl <;> rfl) (show 1 + 2 * i + 1 ≤ 61 by omega) (show 30 + 4 * i + 2 ≤ 150 by omega) dX1_init_26 (fun q2 H hP hD hS => ?_)
      refine lv_dup hx hb dX1_init_29 rfl ?_
      refine kafter (X := (h0, .inr (1, [.ref q1, .int 0, .int 0])) :: (q1, .inl (cy 2, 30, .inr (.inr (.inr (.inr (f)))))) :: (kLots U V i)) (q := q2) (e0 := .inr (2, [.null, .int 0])) hA hP hD hS (krunI (X := (h0, .inr (1, [.ref q1, .int 0, .int 0])) :: (q1, .inl (cy 2, 30, .inr (.inr (.inr (.inr (f)))))) :: (kLots U V i)) (rest := [.ref q2, .int x, .ref q1]) C hAO hml hl.1 hP (c_X2_init l D cy q2 H.size) zk_X1_17 rfl rfl ⟨Nat.le_of_ble_eq_true rfl, Nat.le_of_ble_eq_true rfl⟩ (Nat.le_of_ble_eq_true rfl) dX1_init_30 ⟨(show 1 + 2 * i + 1 + 1 ≤ 61 by omega), (show 30 + 4 * i + 2 + 2 ≤ 150 by omega)⟩) (fun Zz3 H locs hz3 hP hD hS => ?_)
      obtain ⟨a4, rfl⟩ := hz3
      have hP : va_P D vwCl ((h0, .inr (1, [.ref q1, .int 0, .int 0])) :: (q1, .inl (cy 2, 30, .inr (.inr (.inr (.inr (f)))))) :: (kLots U V i ++ [(q2, .inr (2, [.ref a4, .int 0])), kOre a4])) H := hP
      have hD : va_D (kA h0 s.heap.size) ((h0, .inr (1, [.ref q1, .int 0, .int 0])) :: (q1, .inl (cy 2, 30, .inr (.inr (.inr (.inr (f)))))) :: (kLots U V i ++ [(q2, .inr (2, [.ref a4, .int 0])), kOre a4])) := hD
      refine va_astq (ws := (h0, .inr (1, [.ref q1, .int 0, .int 0])) :: (q1, .inl (cy 2, 30, .inr (.inr (.inr (.inr (f)))))) :: (kLots U V i ++ [(q2, .inr (2, [.ref a4, .int 0])), kOre a4])) (f := f) hx hb hK hP hD hS 1 2 ((kLots U V i).length + 2) 2 (vs := [.ref a4, .int 0]) rfl rfl kget2 rfl (zix ex (show i < 30 by omega) (by decide)).1 dX1_init_33 (fun H locs hP hD hS => ?_)
      have eY : kLots U V i ++ [(q2, .inr (2, [.ref a4, .int 0])), kOre a4] = kLots (kup U i q2) (kup V i a4) (i + 1) := kpush2
      have hP : va_P D vwCl ((h0, .inr (1, [.ref q1, .int 0, .int 0])) :: (q1, .inl (cy 2, 30, .inr (.inr (.inr (.inr (va_up f x.toNatClampNeg (some q2))))))) :: (kLots U V i ++ [(q2, .inr (2, [.ref a4, .int 0])), kOre a4])) H := hP
      have hD : va_D (kA h0 s.heap.size) ((h0, .inr (1, [.ref q1, .int 0, .int 0])) :: (q1, .inl (cy 2, 30, .inr (.inr (.inr (.inr (va_up f x.toNatClampNeg (some q2))))))) :: (kLots U V i ++ [(q2, .inr (2, [.ref a4, .int 0])), kOre a4])) := hD
      rw [eY] at hP hD
      obtain ⟨x2, ex2⟩ : ∃ y : Int32, y = x + 1 := ⟨_, rfl⟩
      refine lv_iinc (v := x2) (lv' := [(1, .int x2), (0, .ref h0)]) hx hb dX1_init_34 hl (k := 0) rfl (by rw [ex2]; rfl) (by decide) rfl (fun ls hl => ?_)
      refine lv_goto (tgt := 15) hx hb dX1_init_37 (by decide) ?_
      refine W.widen (k := 1 + 2 * (i + 1)) (n := 30 + 4 * (i + 1)) (by omega) (by omega) ?_
      exact ih (i + 1) (by omega) x2 (by rw [ex2, ex, nI_1]) _ (kup U i q2) (kup V i a4) (kup_f ex (by omega) hf) H locs ls hP hD hS hl
  exact loop 30 0 rfl 0 rfl (fun _ => none) (fun _ => 0) (fun _ => 0) (fun j hj => absurd hj (Nat.not_lt_zero j)) H locs ls hP hD hS hl

theorem zk_X0_20 : kGN RX0 20 yX3_init cX3_init 1 := ⟨kgood (zr_3 _ (List.mem_of_getElem? (i := 10) rfl)), (zr_2 _ (List.mem_of_getElem? (i := 11) rfl)), znestM_at 1 rfl, (zr_3 _ (List.mem_of_getElem? (i := 9) rfl)), by decide +kernel⟩
theorem zk_X0_17 : kGN RX0 17 yX4_init cX4_init 1 := ⟨kgood (zr_3 _ (List.mem_of_getElem? (i := 7) rfl)), (zr_2 _ (List.mem_of_getElem? (i := 23) rfl)), znestM_at 0 rfl, (zr_3 _ (List.mem_of_getElem? (i := 6) rfl)), by decide +kernel⟩
set_option maxHeartbeats 4000000 in
set_option maxRecDepth 100000 in
theorem c_X0_init (l : Launch) (D : va_G) (cy : Nat → ClassId) (h0 sz : Nat) : Met l yX0_init (zws yX0_init cX0_init 2 none) ({ frames := 2, cells := 8, slots := 22, locals := 32 } : Room) (kPc D cy h0 sz 0 [.null, .null, .null, .null, .int 0, .int 0, .int 0, .int 0, .int 0]) (kQ D cy h0 sz (kBox cy h0)) 8 22 (kA h0 sz) := by
  refine kopen (Qc := fun sz => kQ D cy h0 sz (kBox cy h0)) RX0 (by decide +kernel) rfl rfl (Nat.le_of_ble_eq_true rfl) ?_
  intro p e s mi below meth c ls C hAO hin hr hlocks hml hl H locs hP hD hS
  obtain ⟨hx, hb, hts, hown, hK, hNw⟩ := id C
  have hA : ∀ q : Nat, s.heap.size ≤ q → kA h0 s.heap.size q := fun q h => Or.inr h
  refine lv_aload_n hx hb dX0_init_0 rfl (lv_at hl 0 rfl) ?_
  refine W.objInit hx hb hown (hts _ (zr_2 _ (List.mem_of_getElem? (i := 19) rfl))) (hts _ (zr_1 _ (List.mem_of_getElem? (i := 11) rfl))) (hts _ (zr_1 _ (List.mem_of_getElem? (i := 12) rfl))) rfl (by rw [hml]; exact hl.1) rfl dX0_init_1 (Nat.le_of_ble_eq_true rfl) (Nat.le_of_ble_eq_true rfl) ?_
  refine W.eq (g2 := F0 mi 4 ls []) rfl ?_
  refine lv_aload_n hx hb dX0_init_4 rfl (lv_at hl 0 rfl) ?_
  refine lv_iconst (v := 4) hx hb dX0_init_5 (by decide) ?_
  refine va_newq (C := "StampWorks$Stamp") (N' := 4) (ws := [(h0, .inr (0, [.null, .null, .null, .null, .int 0, .int 0, .int 0, .int 0, .int 0]))]) hx hb hown (hts _ (zr_2 _ (List.mem_of_getElem? (i := 20) rfl))) hAO.2.2.2 hK hP hD hS hA (by decide) rfl (by decide) (show 0 + 1 ≤ 8 by omega) (show 0 + 4 ≤ 22 by omega) dX0_init_6 (fun q1 cA H hK9 hP hD hS => ?_)
  obtain rfl := kcyQ 4 rfl hK9
  have hP : va_P D vwCl ([(h0, .inr (0, [.null, .null, .null, .null, .int 0, .int 0, .int 0, .int 0, .int 0])), (q1, .inl (cy 4, 4, .inr (.inr (.inr (.inr (fun _ => none))))))]) H := hP
  have hD : va_D (kA h0 s.heap.size) ([(h0, .inr (0, [.null, .null, .null, .null, .int 0, .int 0, .int 0, .int 0, .int 0])), (q1, .inl (cy 4, 4, .inr (.inr (.inr (.inr (fun _ => none))))))]) := hD
  refine va_putF (ws := [(h0, .inr (0, [.null, .null, .null, .null, .int 0, .int 0, .int 0, .int 0, .int 0])), (q1, .inl (cy 4, 4, .inr (.inr (.inr (.inr (fun _ => none))))))]) (v := .ref q1) hx hb hts inlX0 tyX0 tyX0_ok nmX0 hown hK hP hD hS 0 rfl rfl 0 (by decide) (hts _ (zr_2 _ (List.mem_of_getElem? (i := 21) rfl))) (fun _ h => h) rfl hin rfl rfl rfl rfl (Nat.le_of_ble_eq_true rfl) dX0_init_9 (fun H locs hP hD hS => ?_)
  have hP : va_P D vwCl ([(h0, .inr (0, [.ref q1, .null, .null, .null, .int 0, .int 0, .int 0, .int 0, .int 0])), (q1, .inl (cy 4, 4, .inr (.inr (.inr (.inr (fun _ => none))))))]) H := hP
  have hD : va_D (kA h0 s.heap.size) ([(h0, .inr (0, [.ref q1, .null, .null, .null, .int 0, .int 0, .int 0, .int 0, .int 0])), (q1, .inl (cy 4, 4, .inr (.inr (.inr (.inr (fun _ => none))))))]) := hD
  refine lv_iconst (v := 0) hx hb dX0_init_12 (by decide) ?_
  refine lv_istore_n (lv' := [(1, .int 0), (0, .ref h0)]) hx hb dX0_init_13 rfl hl (by decide) rfl (fun ls hl => ?_)
  refine W.widen (k := 1) (n := 4) (by omega) (by omega) ?_
  have done : ∀ (x : Int32) (f : Nat → Option Nat) (U : Nat → Nat), (∀ j, j < 4 → f j = some (U j)) → ∀ (H : Heap) (locs : List Loc) (ls : Array Slot), va_P D vwCl ((h0, .inr (0, [.ref q1, .null, .null, .null, .int 0, .int 0, .int 0, .int 0, .int 0])) :: (q1, .inl (cy 4, 4, .inr (.inr (.inr (.inr (f)))))) :: (kStamps U 4)) H → va_D (kA h0 s.heap.size) ((h0, .inr (0, [.ref q1, .null, .null, .null, .int 0, .int 0, .int 0, .int 0, .int 0])) :: (q1, .inl (cy 4, 4, .inr (.inr (.inr (.inr (f)))))) :: (kStamps U 4)) → va_S (kA h0 s.heap.size) s.heap H locs → lv_has ls 2 [(1, .int x), (0, .ref h0)] → W p l e ({ frames := 2, cells := 8, slots := 22, locals := 32 } : Room) s mi [Value.ref h0].toArray below meth c H locs (1 + 1 * 4) (4 + 3 * 4) (MQ below (kQ D cy h0 s.heap.size (kBox cy h0)) [Value.ref h0].toArray s 8 22 (kA h0 s.heap.size)) (F0 mi 38 ls []) := by
    intro x f U hf H locs ls hP hD hS hl
    refine lv_aload_n hx hb dX0_init_38 rfl (lv_at hl 1 rfl) ?_
    refine va_new (ci := 3) (fs := [.int 0, .int 0]) (C := RX3) (T := TX3) (N := 2) (ws := (h0, .inr (0, [.ref q1, .null, .null, .null, .int 0, .int 0, .int 0, .int 0, .int 0])) :: (q1, .inl (cy 4, 4, .inr (.inr (.inr (.inr (f)))))) :: (kStamps U 4)) hx hb hts inlX3 tyX3 tyX3_ok hown (hts _ (zr_3 _ (List.mem_of_getElem? (i := 0) rfl))) (hts _ (zr_2 _ (List.mem_of_getElem? (i := 10) rfl))) (hts _ (zr_2 _ (List.mem_of_getElem? (i := 11) rfl))) hK hP hD hS hA rfl (fun j hj => by rcases (show j = 0 ∨ j = 1 by omega) with rfl | rfl <;> rfl) (show 1 + 1 * 4 + 1 ≤ 8 by omega) (show 4 + 3 * 4 + 2 ≤ 22 by omega) dX0_init_39 (fun q2 H hP hD hS => ?_)
    refine lv_dup hx hb dX0_init_42 rfl ?_
    refine kafter (X := (h0, .inr (0, [.ref q1, .null, .null, .null, .int 0, .int 0, .int 0, .int 0, .int 0])) :: (q1, .inl (cy 4, 4, .inr (.inr (.inr (.inr (f)))))) :: (kStamps U 4)) (q := q2) (e0 := .inr (3, [.int 0, .int 0])) hA hP hD hS (krunIN (X := (h0, .inr (0, [.ref q1, .null, .null, .null, .int 0, .int 0, .int 0, .int 0, .int 0])) :: (q1, .inl (cy 4, 4, .inr (.inr (.inr (.inr (f)))))) :: (kStamps U 4)) (rest := [.ref q2, .ref h0]) C hAO hml hl.1 hP (c_X3_init l D cy q2 H.size) zk_X0_20 rfl rfl ⟨Nat.le_of_ble_eq_true rfl, Nat.le_of_ble_eq_true rfl⟩ (Nat.le_of_ble_eq_true rfl) dX0_init_43 ⟨(show 1 + 1 * 4 + 1 + 0 ≤ 8 by omega), (show 4 + 3 * 4 + 2 + 0 ≤ 22 by omega)⟩) (fun Zz3 H locs hz3 hP hD hS => ?_)
    subst hz3
    have hP : va_P D vwCl ((h0, .inr (0, [.ref q1, .null, .null, .null, .int 0, .int 0, .int 0, .int 0, .int 0])) :: (q1, .inl (cy 4, 4, .inr (.inr (.inr (.inr (f)))))) :: (kStamps U 4 ++ [kOre q2])) H := hP
    have hD : va_D (kA h0 s.heap.size) ((h0, .inr (0, [.ref q1, .null, .null, .null, .int 0, .int 0, .int 0, .int 0, .int 0])) :: (q1, .inl (cy 4, 4, .inr (.inr (.inr (.inr (f)))))) :: (kStamps U 4 ++ [kOre q2])) := hD
    refine va_putF (ws := (h0, .inr (0, [.ref q1, .null, .null, .null, .int 0, .int 0, .int 0, .int 0, .int 0])) :: (q1, .inl (cy 4, 4, .inr (.inr (.inr (.inr (f)))))) :: (kStamps U 4 ++ [kOre q2])) (v := .ref q2) hx hb hts inlX0 tyX0 tyX0_ok nmX0 hown hK hP hD hS 0 rfl rfl 1 (by decide) (hts _ (zr_3 _ (List.mem_of_getElem? (i := 1) rfl))) (fun _ h => h) rfl hin rfl rfl rfl rfl (Nat.le_of_ble_eq_true rfl) dX0_init_46 (fun H locs hP hD hS => ?_)
    have hP : va_P D vwCl ((h0, .inr (0, [.ref q1, .ref q2, .null, .null, .int 0, .int 0, .int 0, .int 0, .int 0])) :: (q1, .inl (cy 4, 4, .inr (.inr (.inr (.inr (f)))))) :: (kStamps U 4 ++ [kOre q2])) H := hP
    have hD : va_D (kA h0 s.heap.size) ((h0, .inr (0, [.ref q1, .ref q2, .null, .null, .int 0, .int 0, .int 0, .int 0, .int 0])) :: (q1, .inl (cy 4, 4, .inr (.inr (.inr (.inr (f)))))) :: (kStamps U 4 ++ [kOre q2])) := hD
    refine lv_aload_n hx hb dX0_init_49 rfl (lv_at hl 1 rfl) ?_
    refine va_new (ci := 3) (fs := [.int 0, .int 0]) (C := RX3) (T := TX3) (N := 2) (ws := (h0, .inr (0, [.ref q1, .ref q2, .null, .null, .int 0, .int 0, .int 0, .int 0, .int 0])) :: (q1, .inl (cy 4, 4, .inr (.inr (.inr (.inr (f)))))) :: (kStamps U 4 ++ [kOre q2])) hx hb hts inlX3 tyX3 tyX3_ok hown (hts _ (zr_3 _ (List.mem_of_getElem? (i := 0) rfl))) (hts _ (zr_2 _ (List.mem_of_getElem? (i := 10) rfl))) (hts _ (zr_2 _ (List.mem_of_getElem? (i := 11) rfl))) hK hP hD hS hA rfl (fun j hj => by rcases (show j = 0 ∨ j = 1 by omega) with rfl | rfl <;> rfl) (show 1 + 1 * 4 + 1 + 0 + 1 ≤ 8 by omega) (show 4 + 3 * 4 + 2 + 0 + 2 ≤ 22 by omega) dX0_init_50 (fun q4 H hP hD hS => ?_)
    refine lv_dup hx hb dX0_init_53 rfl ?_
    refine kafter (X := (h0, .inr (0, [.ref q1, .ref q2, .null, .null, .int 0, .int 0, .int 0, .int 0, .int 0])) :: (q1, .inl (cy 4, 4, .inr (.inr (.inr (.inr (f)))))) :: (kStamps U 4 ++ [kOre q2])) (q := q4) (e0 := .inr (3, [.int 0, .int 0])) hA hP hD hS (krunIN (X := (h0, .inr (0, [.ref q1, .ref q2, .null, .null, .int 0, .int 0, .int 0, .int 0, .int 0])) :: (q1, .inl (cy 4, 4, .inr (.inr (.inr (.inr (f)))))) :: (kStamps U 4 ++ [kOre q2])) (rest := [.ref q4, .ref h0]) C hAO hml hl.1 hP (c_X3_init l D cy q4 H.size) zk_X0_20 rfl rfl ⟨Nat.le_of_ble_eq_true rfl, Nat.le_of_ble_eq_true rfl⟩ (Nat.le_of_ble_eq_true rfl) dX0_init_54 ⟨(show 1 + 1 * 4 + 1 + 0 + 1 + 0 ≤ 8 by omega), (show 4 + 3 * 4 + 2 + 0 + 2 + 0 ≤ 22 by omega)⟩) (fun Zz5 H locs hz5 hP hD hS => ?_)
    subst hz5
    have hP : va_P D vwCl ((h0, .inr (0, [.ref q1, .ref q2, .null, .null, .int 0, .int 0, .int 0, .int 0, .int 0])) :: (q1, .inl (cy 4, 4, .inr (.inr (.inr (.inr (f)))))) :: (kStamps U 4 ++ [kOre q2] ++ [kOre q4])) H := hP
    have hD : va_D (kA h0 s.heap.size) ((h0, .inr (0, [.ref q1, .ref q2, .null, .null, .int 0, .int 0, .int 0, .int 0, .int 0])) :: (q1, .inl (cy 4, 4, .inr (.inr (.inr (.inr (f)))))) :: (kStamps U 4 ++ [kOre q2] ++ [kOre q4])) := hD
    refine va_putF (ws := (h0, .inr (0, [.ref q1, .ref q2, .null, .null, .int 0, .int 0, .int 0, .int 0, .int 0])) :: (q1, .inl (cy 4, 4, .inr (.inr (.inr (.inr (f)))))) :: (kStamps U 4 ++ [kOre q2] ++ [kOre q4])) (v := .ref q4) hx hb hts inlX0 tyX0 tyX0_ok nmX0 hown hK hP hD hS 0 rfl rfl 2 (by decide) (hts _ (zr_3 _ (List.mem_of_getElem? (i := 2) rfl))) (fun _ h => h) rfl hin rfl rfl rfl rfl (Nat.le_of_ble_eq_true rfl) dX0_init_57 (fun H locs hP hD hS => ?_)
    have hP : va_P D vwCl ((h0, .inr (0, [.ref q1, .ref q2, .ref q4, .null, .int 0, .int 0, .int 0, .int 0, .int 0])) :: (q1, .inl (cy 4, 4, .inr (.inr (.inr (.inr (f)))))) :: (kStamps U 4 ++ [kOre q2] ++ [kOre q4])) H := hP
    have hD : va_D (kA h0 s.heap.size) ((h0, .inr (0, [.ref q1, .ref q2, .ref q4, .null, .int 0, .int 0, .int 0, .int 0, .int 0])) :: (q1, .inl (cy 4, 4, .inr (.inr (.inr (.inr (f)))))) :: (kStamps U 4 ++ [kOre q2] ++ [kOre q4])) := hD
    refine lv_aload_n hx hb dX0_init_60 rfl (lv_at hl 1 rfl) ?_
    refine va_new (ci := 3) (fs := [.int 0, .int 0]) (C := RX3) (T := TX3) (N := 2) (ws := (h0, .inr (0, [.ref q1, .ref q2, .ref q4, .null, .int 0, .int 0, .int 0, .int 0, .int 0])) :: (q1, .inl (cy 4, 4, .inr (.inr (.inr (.inr (f)))))) :: (kStamps U 4 ++ [kOre q2] ++ [kOre q4])) hx hb hts inlX3 tyX3 tyX3_ok hown (hts _ (zr_3 _ (List.mem_of_getElem? (i := 0) rfl))) (hts _ (zr_2 _ (List.mem_of_getElem? (i := 10) rfl))) (hts _ (zr_2 _ (List.mem_of_getElem? (i := 11) rfl))) hK hP hD hS hA rfl (fun j hj => by rcases (show j = 0 ∨ j = 1 by omega) with rfl | rfl <;> rfl) (show 1 + 1 * 4 + 1 + 0 + 1 + 0 + 1 ≤ 8 by omega) (show 4 + 3 * 4 + 2 + 0 + 2 + 0 + 2 ≤ 22 by omega) dX0_init_61 (fun q6 H hP hD hS => ?_)
    refine lv_dup hx hb dX0_init_64 rfl ?_
    refine kafter (X := (h0, .inr (0, [.ref q1, .ref q2, .ref q4, .null, .int 0, .int 0, .int 0, .int 0, .int 0])) :: (q1, .inl (cy 4, 4, .inr (.inr (.inr (.inr (f)))))) :: (kStamps U 4 ++ [kOre q2] ++ [kOre q4])) (q := q6) (e0 := .inr (3, [.int 0, .int 0])) hA hP hD hS (krunIN (X := (h0, .inr (0, [.ref q1, .ref q2, .ref q4, .null, .int 0, .int 0, .int 0, .int 0, .int 0])) :: (q1, .inl (cy 4, 4, .inr (.inr (.inr (.inr (f)))))) :: (kStamps U 4 ++ [kOre q2] ++ [kOre q4])) (rest := [.ref q6, .ref h0]) C hAO hml hl.1 hP (c_X3_init l D cy q6 H.size) zk_X0_20 rfl rfl ⟨Nat.le_of_ble_eq_true rfl, Nat.le_of_ble_eq_true rfl⟩ (Nat.le_of_ble_eq_true rfl) dX0_init_65 ⟨(show 1 + 1 * 4 + 1 + 0 + 1 + 0 + 1 + 0 ≤ 8 by omega), (show 4 + 3 * 4 + 2 + 0 + 2 + 0 + 2 + 0 ≤ 22 by omega)⟩) (fun Zz7 H locs hz7 hP hD hS => ?_)
    subst hz7
    have hP : va_P D vwCl ((h0, .inr (0, [.ref q1, .ref q2, .ref q4, .null, .int 0, .int 0, .int 0, .int 0, .int 0])) :: (q1, .inl (cy 4, 4, .inr (.inr (.inr (.inr (f)))))) :: (kStamps U 4 ++ [kOre q2] ++ [kOre q4] ++ [kOre q6])) H := hP
    have hD : va_D (kA h0 s.heap.size) ((h0, .inr (0, [.ref q1, .ref q2, .ref q4, .null, .int 0, .int 0, .int 0, .int 0, .int 0])) :: (q1, .inl (cy 4, 4, .inr (.inr (.inr (.inr (f)))))) :: (kStamps U 4 ++ [kOre q2] ++ [kOre q4] ++ [kOre q6])) := hD
    refine va_putF (ws := (h0, .inr (0, [.ref q1, .ref q2, .ref q4, .null, .int 0, .int 0, .int 0, .int 0, .int 0])) :: (q1, .inl (cy 4, 4, .inr (.inr (.inr (.inr (f)))))) :: (kStamps U 4 ++ [kOre q2] ++ [kOre q4] ++ [kOre q6])) (v := .ref q6) hx hb hts inlX0 tyX0 tyX0_ok nmX0 hown hK hP hD hS 0 rfl rfl 3 (by decide) (hts _ (zr_3 _ (List.mem_of_getElem? (i := 3) rfl))) (fun _ h => h) rfl hin rfl rfl rfl rfl (Nat.le_of_ble_eq_true rfl) dX0_init_68 (fun H locs hP hD hS => ?_)
    have hP : va_P D vwCl ((h0, .inr (0, [.ref q1, .ref q2, .ref q4, .ref q6, .int 0, .int 0, .int 0, .int 0, .int 0])) :: (q1, .inl (cy 4, 4, .inr (.inr (.inr (.inr (f)))))) :: (kStamps U 4 ++ [kOre q2] ++ [kOre q4] ++ [kOre q6])) H := hP
    have hD : va_D (kA h0 s.heap.size) ((h0, .inr (0, [.ref q1, .ref q2, .ref q4, .ref q6, .int 0, .int 0, .int 0, .int 0, .int 0])) :: (q1, .inl (cy 4, 4, .inr (.inr (.inr (.inr (f)))))) :: (kStamps U 4 ++ [kOre q2] ++ [kOre q4] ++ [kOre q6])) := hD
    refine lv_aload_n hx hb dX0_init_71 rfl (lv_at hl 1 rfl) ?_
    refine lv_bipush (v := 50) hx hb dX0_init_72 (by decide) ?_
    refine va_put (ws := (h0, .inr (0, [.ref q1, .ref q2, .ref q4, .ref q6, .int 0, .int 0, .int 0, .int 0, .int 0])) :: (q1, .inl (cy 4, 4, .inr (.inr (.inr (.inr (f)))))) :: (kStamps U 4 ++ [kOre q2] ++ [kOre q4] ++ [kOre q6])) (v := .int 50) hx hb hts inlX0 tyX0 tyX0_ok nmX0 hown hK hP hD hS 0 rfl rfl 5 (by decide) (hts _ (zr_3 _ (List.mem_of_getElem? (i := 4) rfl))) (fun _ h => h) rfl rfl rfl rfl (Nat.le_of_ble_eq_true rfl) dX0_init_74 (fun H locs hP hD hS => ?_)
    have hP : va_P D vwCl ((h0, .inr (0, [.ref q1, .ref q2, .ref q4, .ref q6, .int 0, .int 50, .int 0, .int 0, .int 0])) :: (q1, .inl (cy 4, 4, .inr (.inr (.inr (.inr (f)))))) :: (kStamps U 4 ++ [kOre q2] ++ [kOre q4] ++ [kOre q6])) H := hP
    have hD : va_D (kA h0 s.heap.size) ((h0, .inr (0, [.ref q1, .ref q2, .ref q4, .ref q6, .int 0, .int 50, .int 0, .int 0, .int 0])) :: (q1, .inl (cy 4, 4, .inr (.inr (.inr (.inr (f)))))) :: (kStamps U 4 ++ [kOre q2] ++ [kOre q4] ++ [kOre q6])) := hD
    refine lv_aload_n hx hb dX0_init_77 rfl (lv_at hl 1 rfl) ?_
    refine lv_iconst (v := 5) hx hb dX0_init_78 (by decide) ?_
    refine va_put (ws := (h0, .inr (0, [.ref q1, .ref q2, .ref q4, .ref q6, .int 0, .int 50, .int 0, .int 0, .int 0])) :: (q1, .inl (cy 4, 4, .inr (.inr (.inr (.inr (f)))))) :: (kStamps U 4 ++ [kOre q2] ++ [kOre q4] ++ [kOre q6])) (v := .int 5) hx hb hts inlX0 tyX0 tyX0_ok nmX0 hown hK hP hD hS 0 rfl rfl 7 (by decide) (hts _ (zr_3 _ (List.mem_of_getElem? (i := 5) rfl))) (fun _ h => h) rfl rfl rfl rfl (Nat.le_of_ble_eq_true rfl) dX0_init_79 (fun H locs hP hD hS => ?_)
    have hP : va_P D vwCl ((h0, .inr (0, [.ref q1, .ref q2, .ref q4, .ref q6, .int 0, .int 50, .int 0, .int 5, .int 0])) :: (q1, .inl (cy 4, 4, .inr (.inr (.inr (.inr (f)))))) :: (kStamps U 4 ++ [kOre q2] ++ [kOre q4] ++ [kOre q6])) H := hP
    have hD : va_D (kA h0 s.heap.size) ((h0, .inr (0, [.ref q1, .ref q2, .ref q4, .ref q6, .int 0, .int 50, .int 0, .int 5, .int 0])) :: (q1, .inl (cy 4, 4, .inr (.inr (.inr (.inr (f)))))) :: (kStamps U 4 ++ [kOre q2] ++ [kOre q4] ++ [kOre q6])) := hD
    refine W.widen (k := 8) (n := 22) (by omega) (by omega) ?_
    exact kret C hr hlocks hP hD hS dX0_init_82 ⟨_, _, _, _, f, U, rfl, hf⟩
  have loop : ∀ (k i : Nat), i + k = 4 → ∀ (x : Int32), x = nI i → ∀ (f : Nat → Option Nat) (U : Nat → Nat), (∀ j, j < i → f j = some (U j)) → ∀ (H : Heap) (locs : List Loc) (ls : Array Slot), va_P D vwCl ((h0, .inr (0, [.ref q1, .null, .null, .null, .int 0, .int 0, .int 0, .int 0, .int 0])) :: (q1, .inl (cy 4, 4, .inr (.inr (.inr (.inr (f)))))) :: (kStamps U i)) H → va_D (kA h0 s.heap.size) ((h0, .inr (0, [.ref q1, .null, .null, .null, .int 0, .int 0, .int 0, .int 0, .int 0])) :: (q1, .inl (cy 4, 4, .inr (.inr (.inr (.inr (f)))))) :: (kStamps U i)) → va_S (kA h0 s.heap.size) s.heap H locs → lv_has ls 2 [(1, .int x), (0, .ref h0)] → W p l e ({ frames := 2, cells := 8, slots := 22, locals := 32 } : Room) s mi [Value.ref h0].toArray below meth c H locs (1 + 1 * i) (4 + 3 * i) (MQ below (kQ D cy h0 s.heap.size (kBox cy h0)) [Value.ref h0].toArray s 8 22 (kA h0 s.heap.size)) (F0 mi 14 ls []) := by
    intro k
    induction k with
    | zero =>
      intro i hi x ex f U hf H locs ls hP hD hS hl
      have hi : i = 4 := by omega
      refine lv_iload_n hx hb dX0_init_14 rfl (lv_at hl 0 rfl) ?_
      refine lv_iconst (v := 4) hx hb dX0_init_15 (by decide) ?_
      refine lv_icmp_ge (tgt := 38) hx hb dX0_init_16 (by decide) (fun _ => ?_) (fun cc => absurd (show (4 : Int32) ≤ x by rw [ex, hi]; decide) cc)
      subst hi
      exact done x f U hf H locs ls hP hD hS hl
    | succ k ih =>
      intro i hi x ex f U hf H locs ls hP hD hS hl
      refine lv_iload_n hx hb dX0_init_14 rfl (lv_at hl 0 rfl) ?_
      refine lv_iconst (v := 4) hx hb dX0_init_15 (by decide) ?_
      refine lv_icmp_ge (tgt := 38) hx hb dX0_init_16 (by decide) (fun cc => absurd (zle cc (a := 4) rfl ex (by decide) (by omega)) (by omega)) (fun _ => ?_)
      refine lv_aload_n hx hb dX0_init_19 rfl (lv_at hl 1 rfl) ?_
      refine va_get (ws := (h0, .inr (0, [.ref q1, .null, .null, .null, .int 0, .int 0, .int 0, .int 0, .int 0])) :: (q1, .inl (cy 4, 4, .inr (.inr (.inr (.inr (f)))))) :: (kStamps U i)) hx hb hts inlX0 hown hK hP 0 rfl rfl 0 (by decide) (hts _ (zr_2 _ (List.mem_of_getElem? (i := 21) rfl))) (fun _ h => h) rfl dX0_init_20 ?_
      refine lv_iload_n hx hb dX0_init_23 rfl (lv_at hl 0 rfl) ?_
      refine va_new (ci := 4) (fs := [.int 0, .int 0, .int 0]) (C := RX4) (T := TX4) (N := 3) (ws := (h0, .inr (0, [.ref q1, .null, .null, .null, .int 0, .int 0, .int 0, .int 0, .int 0])) :: (q1, .inl (cy 4, 4, .inr (.inr (.inr (.inr (f)))))) :: (kStamps U i)) hx hb hts inlX4 tyX4 tyX4_ok hown (hts _ (zr_2 _ (List.mem_of_getElem? (i := 20) rfl))) (hts _ (zr_2 _ (List.mem_of_getElem? (i := 22) rfl))) (hts _ (zr_2 _ (List.mem_of_getElem? (i := 23) rfl))) hK hP hD hS hA rfl (fun j hj => by rcases (show j = 0 ∨ j = 1 ∨ j = 2 by omega) with rfl | rfl | rfl <;> rfl) (show 1 + 1 * i + 1 ≤ 8 by omega) (show 4 + 3 * i + 3 ≤ 22 by omega) dX0_init_24 (fun q8 H hP hD hS => ?_)
      refine lv_dup hx hb dX0_init_27 rfl ?_
      refine kafter (X := (h0, .inr (0, [.ref q1, .null, .null, .null, .int 0, .int 0, .int 0, .int 0, .int 0])) :: (q1, .inl (cy 4, 4, .inr (.inr (.inr (.inr (f)))))) :: (kStamps U i)) (q := q8) (e0 := .inr (4, [.int 0, .int 0, .int 0])) hA hP hD hS (krunIN (X := (h0, .inr (0, [.ref q1, .null, .null, .null, .int 0, .int 0, .int 0, .int 0, .int 0])) :: (q1, .inl (cy 4, 4, .inr (.inr (.inr (.inr (f)))))) :: (kStamps U i)) (rest := [.ref q8, .int x, .ref q1]) C hAO hml hl.1 hP (c_X4_init l D cy q8 H.size) zk_X0_17 rfl rfl ⟨Nat.le_of_ble_eq_true rfl, Nat.le_of_ble_eq_true rfl⟩ (Nat.le_of_ble_eq_true rfl) dX0_init_28 ⟨(show 1 + 1 * i + 1 + 0 ≤ 8 by omega), (show 4 + 3 * i + 3 + 0 ≤ 22 by omega)⟩) (fun Zz9 H locs hz9 hP hD hS => ?_)
      subst hz9
      have hP : va_P D vwCl ((h0, .inr (0, [.ref q1, .null, .null, .null, .int 0, .int 0, .int 0, .int 0, .int 0])) :: (q1, .inl (cy 4, 4, .inr (.inr (.inr (.inr (f)))))) :: (kStamps U i ++ [kStamp q8])) H := hP
      have hD : va_D (kA h0 s.heap.size) ((h0, .inr (0, [.ref q1, .null, .null, .null, .int 0, .int 0, .int 0, .int 0, .int 0])) :: (q1, .inl (cy 4, 4, .inr (.inr (.inr (.inr (f)))))) :: (kStamps U i ++ [kStamp q8])) := hD
      refine va_astq (ws := (h0, .inr (0, [.ref q1, .null, .null, .null, .int 0, .int 0, .int 0, .int 0, .int 0])) :: (q1, .inl (cy 4, 4, .inr (.inr (.inr (.inr (f)))))) :: (kStamps U i ++ [kStamp q8])) (f := f) hx hb hK hP hD hS 1 4 ((kStamps U i).length + 2) 4 (vs := [.int 0, .int 0, .int 0]) rfl rfl kget2 rfl (zix ex (show i < 4 by omega) (by decide)).1 dX0_init_31 (fun H locs hP hD hS => ?_)
      have eY : kStamps U i ++ [kStamp q8] = kStamps (kup U i q8) (i + 1) := kpush4
      have hP : va_P D vwCl ((h0, .inr (0, [.ref q1, .null, .null, .null, .int 0, .int 0, .int 0, .int 0, .int 0])) :: (q1, .inl (cy 4, 4, .inr (.inr (.inr (.inr (va_up f x.toNatClampNeg (some q8))))))) :: (kStamps U i ++ [kStamp q8])) H := hP
      have hD : va_D (kA h0 s.heap.size) ((h0, .inr (0, [.ref q1, .null, .null, .null, .int 0, .int 0, .int 0, .int 0, .int 0])) :: (q1, .inl (cy 4, 4, .inr (.inr (.inr (.inr (va_up f x.toNatClampNeg (some q8))))))) :: (kStamps U i ++ [kStamp q8])) := hD
      rw [eY] at hP hD
      obtain ⟨x2, ex2⟩ : ∃ y : Int32, y = x + 1 := ⟨_, rfl⟩
      refine lv_iinc (v := x2) (lv' := [(1, .int x2), (0, .ref h0)]) hx hb dX0_init_32 hl (k := 0) rfl (by rw [ex2]; rfl) (by decide) rfl (fun ls hl => ?_)
      refine lv_goto (tgt := 14) hx hb dX0_init_35 (by decide) ?_
      refine W.widen (k := 1 + 1 * (i + 1)) (n := 4 + 3 * (i + 1)) (by omega) (by omega) ?_
      exact ih (i + 1) (by omega) x2 (by rw [ex2, ex, nI_1]) _ (kup U i q8) (kup_f ex (by omega) hf) H locs ls hP hD hS hl
  exact loop 4 0 rfl 0 rfl (fun _ => none) (fun _ => 0) (fun j hj => absurd hj (Nat.not_lt_zero j)) H locs ls hP hD hS hl
