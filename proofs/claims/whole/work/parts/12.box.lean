/-! boxes -/
theorem q_max1_ge {h : Int32} : 1 ≤ q_max 1 h := by
  unfold q_max
  split
  · next q => exact Int32.le_of_lt q
  · exact Int32.le_refl 1
theorem q_max1_ne {h : Int32} : ¬ q_max 1 h = 0 := by
  intro q
  have h1 := q_max1_ge (h := h)
  rw [q] at h1
  exact absurd h1 (by decide)
theorem q_max2_ne {h : Int32} : ¬ 2 * q_max 1 h = 0 := by
  intro q
  have h1 := q_max1_ge (h := h)
  obtain ⟨k, hk, e⟩ := nI_of (x := q_max 1 h) (fun z => by
    have h2 := Int32.lt_iff_toInt_lt.mp z
    have h3 := Int32.le_iff_toInt_le.mp h1
    have e0 : (0 : Int32).toInt = 0 := rfl
    have e1 : (1 : Int32).toInt = 1 := rfl
    omega)
  rw [e] at h1 q
  have h2 : 1 ≤ k := zle h1 (a := 1) (b := k) rfl rfl (by decide) hk
  rw [show (2 : Int32) = nI 2 from rfl, pk_mul] at q
  have h4 := congrArg (fun z : Int32 => z.toBitVec.toNat) q
  simp only [pk_tn (n := 2 * k) (by omega)] at h4
  have e2 : (0 : Int32).toBitVec.toNat = 0 := rfl
  omega
def q_addStamp (m : ZM) (w b cn : Nat) (x y : Int32) : ZM :=
  let m1 := zs m (6, w, 4 * b + cn) 0 x
  let m2 := zs m1 (6, w, 4 * b + cn) 1 y
  zs m2 (4, w, b) 4 (m2 (4, w, b) 4 + 1)
def q_wears (m : ZM) (w b cn : Nat) : Int32 := bx_sum (fun j => m (6, w, 4 * b + j) 2) cn
def q_loads (m : ZM) (w b cn : Nat) : Int32 := bx_sum (fun j => q_load1 m (6, w, 4 * b + j)) cn
def q_forces (m : ZM) (w b : Nat) (t : Int32) (cn : Nat) : Int32 := bx_sum (fun j => q_force1 m (6, w, 4 * b + j) t) cn
def q_tellBox (m : ZM) (w b cn : Nat) (k : Int32) : Int32 :=
  if k = 0 then m (4, w, b) 4 else if k = 1 then m (4, w, b) 5 else if k = 2 then m (4, w, b) 6 else if k = 3 then m (4, w, b) 7
  else if k = 4 then m (7, w, 3 * b) 0 else if k = 5 then m (7, w, 3 * b + 1) 0 else if k = 6 then m (7, w, 3 * b + 2) 0
  else if k = 7 then m (7, w, 3 * b) 1 else if k = 8 then m (7, w, 3 * b + 1) 1 else if k = 9 then m (7, w, 3 * b + 2) 1
  else if k = 10 then q_wears m w b cn else m (4, w, b) 8
def q_tinSizes (m : ZM) (w b : Nat) : Int32 := m (7, w, 3 * b) 1 + m (7, w, 3 * b + 1) 1 + m (7, w, 3 * b + 2) 1
def q_blow (m : ZM) (w b cn : Nat) (t : Int32) : ZM :=
  let m1 := zs m (4, w, b) 8 (q_forces m w b t cn)
  let d := q_max 1 (m1 (4, w, b) 7)
  let m2 := q_move m1 (7, w, 3 * b) (7, w, 3 * b + 1) (m1 (4, w, b) 8 / d)
  q_move m2 (7, w, 3 * b + 1) (7, w, 3 * b + 2) (m2 (4, w, b) 8 / (2 * d))
def q_slimeR (m : ZM) (w b : Nat) : Int32 := q_min (m (7, w, 3 * b + 2) 1) (q_max 1 (m (7, w, 3 * b + 2) 1 / 10))
def q_slimeM (m : ZM) (w b : Nat) : ZM := zs m (7, w, 3 * b + 2) 1 (m (7, w, 3 * b + 2) 1 - q_slimeR m w b)
def q_grate (m : ZM) (w b : Nat) (v : ZN) (x : Int32) : ZM := q_move m (7, w, 3 * b + 2) v (q_min (x / 4) (6000 - q_whole m v))
def q_wearS (m : ZM) (w b : Nat) (t : Int32) : Nat → ZM
  | 0 => m
  | k + 1 => q_wearBy (q_wearS m w b t k) (6, w, 4 * b + k) t
theorem q_wearS_k {m : ZM} {w b : Nat} {t : Int32} {cn : Nat} {k : ZN} (h : k.1 ≠ 6) : q_wearS m w b t cn k = m k := by
  induction cn with
  | zero => rfl
  | succ n ih => rw [q_wearS, q_wearBy, zs_k h, ih]
def q_cpStamps (w b v d : Nat) (m : ZM) : Nat → ZM
  | 0 => m
  | k + 1 => q_copyStamp (q_cpStamps w b v d m k) (6, w, 4 * b + k) (6, v, 4 * d + k)
theorem q_copyStamp_k {m : ZM} {n v k : ZN} (h : k.1 ≠ n.1) : q_copyStamp m n v k = m k := by
  unfold q_copyStamp
  rw [zs_k h, zs_k h, zs_k h]
theorem q_cpStamps_k {w b v d n : Nat} {m : ZM} {k : ZN} (h : k.1 ≠ 6) : q_cpStamps w b v d m n k = m k := by
  induction n with
  | zero => rfl
  | succ n ih => rw [q_cpStamps, q_copyStamp_k h, ih]
def q_copyOre (m : ZM) (n v : ZN) : ZM := q_become m n (m v 0) (m v 1)
def q_copyBox (m : ZM) (w b v d cn : Nat) : ZM :=
  let m1 := q_cpStamps w b v d (zs m (4, w, b) 4 (m (4, v, d) 4)) cn
  let m2 := q_copyOre m1 (7, w, 3 * b) (7, v, 3 * d)
  let m3 := q_copyOre m2 (7, w, 3 * b + 1) (7, v, 3 * d + 1)
  let m4 := q_copyOre m3 (7, w, 3 * b + 2) (7, v, 3 * d + 2)
  let m5 := zs m4 (4, w, b) 5 (m4 (4, v, d) 5)
  let m6 := zs m5 (4, w, b) 6 (m5 (4, v, d) 6)
  let m7 := zs m6 (4, w, b) 7 (m6 (4, v, d) 7)
  zs m7 (4, w, b) 8 (m7 (4, v, d) 8)

set_option maxHeartbeats 4000000 in
set_option maxRecDepth 100000 in
theorem c_X0_addStamp (l : Launch) (D : va_G) (cy : Nat → ClassId) (ad : ZN → Nat) (m : ZM) (sz : Nat) {L : List ZN} (hL : zL L) {w b : Nat} (gw : w < 2) (gb : b < 4) {cn : Nat} (hc : m (4, w, b) 4 = nI cn) (lc : cn < 4) (x y : Int32) : Met l yX0_addStamp (zws yX0_addStamp cX0_addStamp 4 none) ({ frames := 0, cells := 0, slots := 0, locals := 0 } : Room) (zPc D cy ad L m sz [.ref (ad (4, w, b)), .int x, .int y]) (zQv (fun m1 => m1 = q_addStamp m w b cn x y) D cy ad L sz) 0 0 (zA ad L sz) := by
  refine zopen (Qc := fun sz => zQv (fun m1 => m1 = q_addStamp m w b cn x y) D cy ad L sz) RX0 (plainFor_of_name (by decide)) rfl (Nat.le_of_ble_eq_true rfl) ?_
  intro p e s mi below meth c ls C hr hlocks hml hl H locs hw
  obtain ⟨hx, hb, hts, hown, hK, hNw⟩ := id C
  have hl : lv_has ls 4 [(0, .ref (ad (4, w, b))), (1, .int x), (2, .int y)] := hl
  refine lv_aload_n hx hb dX0_addStamp_0 rfl (lv_at hl 0 rfl) ?_
  refine zg_X0_11 C hw (zn4 hL gw (by omega)) dX0_addStamp_1 ?_
  refine lv_aload_n hx hb dX0_addStamp_4 rfl (lv_at hl 0 rfl) ?_
  refine zg_X0_38 C hw (zn4 hL gw (by omega)) dX0_addStamp_5 ?_
  refine ztop hc ?_
  refine zald_5N C hw (zn5 hL gw (by omega)) cn (by omega) rfl dX0_addStamp_8 ?_
  refine lv_astore_n (lv' := [(3, .ref (ad (6, w, 4 * b + cn))), (0, .ref (ad (4, w, b))), (1, .int x), (2, .int y)]) hx hb dX0_addStamp_9 rfl hl (by decide) rfl (fun ls hl => ?_)
  refine lv_aload_n hx hb dX0_addStamp_10 rfl (lv_at hl 0 rfl) ?_
  refine lv_iload_n hx hb dX0_addStamp_11 rfl (lv_at hl 2 rfl) ?_
  refine zp_X0_41 C hw (zn6 hL gw (by omega)) dX0_addStamp_12 (fun H locs m1 em1 hw => ?_)
  refine lv_aload_n hx hb dX0_addStamp_15 rfl (lv_at hl 0 rfl) ?_
  refine lv_iload_n hx hb dX0_addStamp_16 rfl (lv_at hl 3 rfl) ?_
  refine zp_X0_44 C hw (zn6 hL gw (by omega)) dX0_addStamp_17 (fun H locs m2 em2 hw => ?_)
  refine lv_aload_n hx hb dX0_addStamp_20 rfl (lv_at hl 1 rfl) ?_
  refine lv_dup hx hb dX0_addStamp_21 rfl ?_
  refine zg_X0_38 C hw (zn4 hL gw (by omega)) dX0_addStamp_22 ?_
  refine lv_iconst (v := 1) hx hb dX0_addStamp_25 (by decide) ?_
  refine lv_iadd hx hb dX0_addStamp_26 ?_
  refine zp_X0_38 C hw (zn4 hL gw (by omega)) dX0_addStamp_27 (fun H locs m3 em3 hw => ?_)
  exact zret_v C hr hlocks hw dX0_addStamp_30 (by first | rfl | (subst_vars; first | rfl))

set_option maxHeartbeats 4000000 in
set_option maxRecDepth 100000 in
theorem c_X0_tinOfSizes (l : Launch) (D : va_G) (cy : Nat → ClassId) (ad : ZN → Nat) (m : ZM) (sz : Nat) {L : List ZN} (hL : zL L) {w b : Nat} (gw : w < 2) (gb : b < 4) : Met l yX0_tinOfSizes (zws yX0_tinOfSizes cX0_tinOfSizes 1 (some .int)) ({ frames := 0, cells := 0, slots := 0, locals := 0 } : Room) (zPc D cy ad L m sz [.ref (ad (4, w, b))]) (zQi (fun r m1 => r = q_tinSizes m w b ∧ m1 = m) D cy ad L sz) 0 0 (zA ad L sz) := by
  refine zopen (Qc := fun sz => zQi (fun r m1 => r = q_tinSizes m w b ∧ m1 = m) D cy ad L sz) RX0 (plainFor_of_name (by decide)) rfl (Nat.le_of_ble_eq_true rfl) ?_
  intro p e s mi below meth c ls C hr hlocks hml hl H locs hw
  obtain ⟨hx, hb, hts, hown, hK, hNw⟩ := id C
  have hl : lv_has ls 1 [(0, .ref (ad (4, w, b)))] := hl
  refine lv_aload_n hx hb dX0_tinOfSizes_0 rfl (lv_at hl 0 rfl) ?_
  refine zg_X0_21 C hw (zn4 hL gw (by omega)) dX0_tinOfSizes_1 ?_
  refine zg_X0_53 C hw (zn7 hL gw (by omega)) dX0_tinOfSizes_4 ?_
  refine lv_aload_n hx hb dX0_tinOfSizes_7 rfl (lv_at hl 0 rfl) ?_
  refine zg_X0_25 C hw (zn4 hL gw (by omega)) dX0_tinOfSizes_8 ?_
  refine zg_X0_53 C hw (zn7 hL gw (by omega)) dX0_tinOfSizes_11 ?_
  refine lv_iadd hx hb dX0_tinOfSizes_14 ?_
  refine lv_aload_n hx hb dX0_tinOfSizes_15 rfl (lv_at hl 0 rfl) ?_
  refine zg_X0_28 C hw (zn4 hL gw (by omega)) dX0_tinOfSizes_16 ?_
  refine zg_X0_53 C hw (zn7 hL gw (by omega)) dX0_tinOfSizes_19 ?_
  refine lv_iadd hx hb dX0_tinOfSizes_22 ?_
  exact zret_i C hr hlocks hw dX0_tinOfSizes_23 ⟨(by first | rfl | (subst_vars; first | rfl)), (by first | rfl | (subst_vars; first | rfl))⟩

set_option maxHeartbeats 4000000 in
set_option maxRecDepth 100000 in
theorem c_X0_wearOfStamps (l : Launch) (D : va_G) (cy : Nat → ClassId) (ad : ZN → Nat) (m : ZM) (sz : Nat) {L : List ZN} (hL : zL L) {w b : Nat} (gw : w < 2) (gb : b < 4) {cn : Nat} (hc : m (4, w, b) 4 = nI cn) (lc : cn ≤ 4) : Met l yX0_wearOfStamps (zws yX0_wearOfStamps cX0_wearOfStamps 3 (some .int)) ({ frames := 0, cells := 0, slots := 0, locals := 0 } : Room) (zPc D cy ad L m sz [.ref (ad (4, w, b))]) (zQi (fun r m1 => r = q_wears m w b cn ∧ m1 = m) D cy ad L sz) 0 0 (zA ad L sz) := by
  refine zopen (Qc := fun sz => zQi (fun r m1 => r = q_wears m w b cn ∧ m1 = m) D cy ad L sz) RX0 (plainFor_of_name (by decide)) rfl (Nat.le_of_ble_eq_true rfl) ?_
  intro p e s mi below meth c ls C hr hlocks hml hl H locs hw
  obtain ⟨hx, hb, hts, hown, hK, hNw⟩ := id C
  have hl : lv_has ls 3 [(0, .ref (ad (4, w, b)))] := hl
  refine lv_iconst (v := 0) hx hb dX0_wearOfStamps_0 (by decide) ?_
  refine lv_istore_n (lv' := [(1, .int 0), (0, .ref (ad (4, w, b)))]) hx hb dX0_wearOfStamps_1 rfl hl (by decide) rfl (fun ls hl => ?_)
  refine lv_iconst (v := 0) hx hb dX0_wearOfStamps_2 (by decide) ?_
  refine lv_istore_n (lv' := [(2, .int 0), (1, .int 0), (0, .ref (ad (4, w, b)))]) hx hb dX0_wearOfStamps_3 rfl hl (by decide) rfl (fun ls hl => ?_)
  have loop4 : ∀ (z : Nat) (k : Nat) (x : Int32) (H : Heap) (locs : List Loc) (ls : Array Slot), cn - k = z → (k ≤ cn) → (x = q_wears m w b k) → zH D cy ad L s.heap H locs m → lv_has ls 3 [(0, .ref (ad (4, w, b))), (1, .int x), (2, .int (nI k))] → W p l e ({ frames := 0, cells := 0, slots := 0, locals := 0 } : Room) s mi [.ref (ad (4, w, b))].toArray below meth c H locs 0 0 (MQ below (zQi (fun r m1 => r = q_wears m w b cn ∧ m1 = m) D cy ad L s.heap.size) [.ref (ad (4, w, b))].toArray s 0 0 (zA ad L s.heap.size)) (F0 mi 4 ls []) := by
    intro z
    induction z using Nat.strongRecOn with
    | _ z ih4 =>
    intro k x H locs ls hz4 i4_1 i4_2 hw hl
    refine lv_iload_n hx hb dX0_wearOfStamps_4 rfl (lv_at hl 2 rfl) ?_
    refine lv_aload_n hx hb dX0_wearOfStamps_5 rfl (lv_at hl 0 rfl) ?_
    refine zg_X0_38 C hw (zn4 hL gw (by omega)) dX0_wearOfStamps_6 ?_
    refine ztop hc ?_
    refine lv_icmp_ge (tgt := 30) hx hb dX0_wearOfStamps_9 (by decide) (fun c9_1 => ?_) (fun c9_1 => ?_)
    · skip
      have n2 := zle c9_1 (a := cn) (b := k) rfl rfl (by omega) (by omega)
      refine lv_iload_n hx hb dX0_wearOfStamps_30 rfl (lv_at hl 1 rfl) ?_
      exact zret_i C hr hlocks hw dX0_wearOfStamps_31 ⟨by rw [i4_2, show k = cn by omega], rfl⟩
    · skip
      have n3 := znle c9_1 (a := cn) (b := k) rfl rfl (by omega) (by omega)
      refine lv_iload_n hx hb dX0_wearOfStamps_12 rfl (lv_at hl 1 rfl) ?_
      refine lv_aload_n hx hb dX0_wearOfStamps_13 rfl (lv_at hl 0 rfl) ?_
      refine zg_X0_11 C hw (zn4 hL gw (by omega)) dX0_wearOfStamps_14 ?_
      refine lv_iload_n hx hb dX0_wearOfStamps_17 rfl (lv_at hl 2 rfl) ?_
      refine zald_5N C hw (zn5 hL gw (by omega)) k (by omega) rfl dX0_wearOfStamps_18 ?_
      refine zg_X0_63 C hw (zn6 hL gw (by omega)) dX0_wearOfStamps_19 ?_
      refine lv_iadd hx hb dX0_wearOfStamps_22 ?_
      refine lv_topi (fun x4 ex4 => ?_)
      refine lv_istore_n (lv' := [(1, .int x4), (0, .ref (ad (4, w, b))), (2, .int (nI k))]) hx hb dX0_wearOfStamps_23 rfl hl (by decide) rfl (fun ls hl => ?_)
      refine lv_iinc (v := (nI (k + 1))) (lv' := [(2, .int (nI (k + 1))), (1, .int x4), (0, .ref (ad (4, w, b)))]) hx hb dX0_wearOfStamps_24 hl (k := 2) rfl (nI_1 k) (by decide) rfl (fun ls hl => ?_)
      refine lv_goto (tgt := 4) hx hb dX0_wearOfStamps_27 (by decide) ?_
      exact ih4 _ (by omega) (k + 1) x4 _ _ _ rfl (by omega) (by rw [ex4, i4_2]; rfl) hw (lv_sub hl [2, 1, 0] rfl)
  exact loop4 _ 0 0 _ _ _ rfl (Nat.zero_le _) rfl hw (lv_sub hl [2, 1, 0] rfl)

set_option maxHeartbeats 4000000 in
set_option maxRecDepth 100000 in
theorem c_X0_loadOfStamps (l : Launch) (D : va_G) (cy : Nat → ClassId) (ad : ZN → Nat) (m : ZM) (sz : Nat) {L : List ZN} (hL : zL L) {w b : Nat} (gw : w < 2) (gb : b < 4) {cn : Nat} (hc : m (4, w, b) 4 = nI cn) (lc : cn ≤ 4) : Met l yX0_loadOfStamps (zws yX0_loadOfStamps cX0_loadOfStamps 3 (some .int)) ({ frames := 1, cells := 0, slots := 0, locals := 20 } : Room) (zPc D cy ad L m sz [.ref (ad (4, w, b))]) (zQi (fun r m1 => r = q_loads m w b cn ∧ m1 = m) D cy ad L sz) 0 0 (zA ad L sz) := by
  refine zopen (Qc := fun sz => zQi (fun r m1 => r = q_loads m w b cn ∧ m1 = m) D cy ad L sz) RX0 (plainFor_of_name (by decide)) rfl (Nat.le_of_ble_eq_true rfl) ?_
  intro p e s mi below meth c ls C hr hlocks hml hl H locs hw
  obtain ⟨hx, hb, hts, hown, hK, hNw⟩ := id C
  have hl : lv_has ls 3 [(0, .ref (ad (4, w, b)))] := hl
  refine lv_iconst (v := 0) hx hb dX0_loadOfStamps_0 (by decide) ?_
  refine lv_istore_n (lv' := [(1, .int 0), (0, .ref (ad (4, w, b)))]) hx hb dX0_loadOfStamps_1 rfl hl (by decide) rfl (fun ls hl => ?_)
  refine lv_iconst (v := 0) hx hb dX0_loadOfStamps_2 (by decide) ?_
  refine lv_istore_n (lv' := [(2, .int 0), (1, .int 0), (0, .ref (ad (4, w, b)))]) hx hb dX0_loadOfStamps_3 rfl hl (by decide) rfl (fun ls hl => ?_)
  have loop4 : ∀ (z : Nat) (k : Nat) (x : Int32) (H : Heap) (locs : List Loc) (ls : Array Slot), cn - k = z → (k ≤ cn) → (x = q_loads m w b k) → zH D cy ad L s.heap H locs m → lv_has ls 3 [(0, .ref (ad (4, w, b))), (1, .int x), (2, .int (nI k))] → W p l e ({ frames := 1, cells := 0, slots := 0, locals := 20 } : Room) s mi [.ref (ad (4, w, b))].toArray below meth c H locs 0 0 (MQ below (zQi (fun r m1 => r = q_loads m w b cn ∧ m1 = m) D cy ad L s.heap.size) [.ref (ad (4, w, b))].toArray s 0 0 (zA ad L s.heap.size)) (F0 mi 4 ls []) := by
    intro z
    induction z using Nat.strongRecOn with
    | _ z ih4 =>
    intro k x H locs ls hz4 i4_1 i4_2 hw hl
    refine lv_iload_n hx hb dX0_loadOfStamps_4 rfl (lv_at hl 2 rfl) ?_
    refine lv_aload_n hx hb dX0_loadOfStamps_5 rfl (lv_at hl 0 rfl) ?_
    refine zg_X0_38 C hw (zn4 hL gw (by omega)) dX0_loadOfStamps_6 ?_
    refine ztop hc ?_
    refine lv_icmp_ge (tgt := 30) hx hb dX0_loadOfStamps_9 (by decide) (fun c9_1 => ?_) (fun c9_1 => ?_)
    · skip
      have n2 := zle c9_1 (a := cn) (b := k) rfl rfl (by omega) (by omega)
      refine lv_iload_n hx hb dX0_loadOfStamps_30 rfl (lv_at hl 1 rfl) ?_
      exact zret_i C hr hlocks hw dX0_loadOfStamps_31 ⟨by rw [i4_2, show k = cn by omega], rfl⟩
    · skip
      have n3 := znle c9_1 (a := cn) (b := k) rfl rfl (by omega) (by omega)
      refine lv_iload_n hx hb dX0_loadOfStamps_12 rfl (lv_at hl 1 rfl) ?_
      refine lv_aload_n hx hb dX0_loadOfStamps_13 rfl (lv_at hl 0 rfl) ?_
      refine zg_X0_11 C hw (zn4 hL gw (by omega)) dX0_loadOfStamps_14 ?_
      refine lv_iload_n hx hb dX0_loadOfStamps_17 rfl (lv_at hl 2 rfl) ?_
      refine zald_5N C hw (zn5 hL gw (by omega)) k (by omega) rfl dX0_loadOfStamps_18 ?_
      refine zafter_i C hw (zrunV (rest := [.int x]) C hml hl.1 hw (zn6 hL gw (by omega)) rfl rfl (c_X4_loadOfStamp l D cy ad m H.size hL gw (by omega)) zv_X0_66 rfl rfl rfl ⟨Nat.le_of_ble_eq_true rfl, Nat.le_of_ble_eq_true rfl⟩ rfl (Nat.le_of_ble_eq_true rfl) dX0_loadOfStamps_19 ⟨Nat.zero_le _, Nat.zero_le _⟩) (fun r6 m5 H locs h4 hw => ?_)
      obtain ⟨er6, h4⟩ := h4
      rw [h4] at hw
      clear h4 m5
      refine lv_iadd hx hb dX0_loadOfStamps_22 ?_
      refine lv_topi (fun x7 ex7 => ?_)
      refine lv_istore_n (lv' := [(1, .int x7), (0, .ref (ad (4, w, b))), (2, .int (nI k))]) hx hb dX0_loadOfStamps_23 rfl hl (by decide) rfl (fun ls hl => ?_)
      refine lv_iinc (v := (nI (k + 1))) (lv' := [(2, .int (nI (k + 1))), (1, .int x7), (0, .ref (ad (4, w, b)))]) hx hb dX0_loadOfStamps_24 hl (k := 2) rfl (nI_1 k) (by decide) rfl (fun ls hl => ?_)
      refine lv_goto (tgt := 4) hx hb dX0_loadOfStamps_27 (by decide) ?_
      exact ih4 _ (by omega) (k + 1) x7 _ _ _ rfl (by omega) (by rw [ex7, i4_2, er6]; rfl) hw (lv_sub hl [2, 1, 0] rfl)
  exact loop4 _ 0 0 _ _ _ rfl (Nat.zero_le _) rfl hw (lv_sub hl [2, 1, 0] rfl)

set_option maxHeartbeats 4000000 in
set_option maxRecDepth 100000 in
theorem c_X0_forceOfStamps (l : Launch) (D : va_G) (cy : Nat → ClassId) (ad : ZN → Nat) (m : ZM) (sz : Nat) {L : List ZN} (hL : zL L) {w b : Nat} (gw : w < 2) (gb : b < 4) {cn : Nat} (hc : m (4, w, b) 4 = nI cn) (lc : cn ≤ 4) (t : Int32) : Met l yX0_forceOfStamps (zws yX0_forceOfStamps cX0_forceOfStamps 4 (some .int)) ({ frames := 1, cells := 0, slots := 0, locals := 21 } : Room) (zPc D cy ad L m sz [.ref (ad (4, w, b)), .int t]) (zQi (fun r m1 => r = q_forces m w b t cn ∧ m1 = m) D cy ad L sz) 0 0 (zA ad L sz) := by
  refine zopen (Qc := fun sz => zQi (fun r m1 => r = q_forces m w b t cn ∧ m1 = m) D cy ad L sz) RX0 (plainFor_of_name (by decide)) rfl (Nat.le_of_ble_eq_true rfl) ?_
  intro p e s mi below meth c ls C hr hlocks hml hl H locs hw
  obtain ⟨hx, hb, hts, hown, hK, hNw⟩ := id C
  have hl : lv_has ls 4 [(0, .ref (ad (4, w, b))), (1, .int t)] := hl
  refine lv_iconst (v := 0) hx hb dX0_forceOfStamps_0 (by decide) ?_
  refine lv_istore_n (lv' := [(2, .int 0), (0, .ref (ad (4, w, b))), (1, .int t)]) hx hb dX0_forceOfStamps_1 rfl hl (by decide) rfl (fun ls hl => ?_)
  refine lv_iconst (v := 0) hx hb dX0_forceOfStamps_2 (by decide) ?_
  refine lv_istore_n (lv' := [(3, .int 0), (2, .int 0), (0, .ref (ad (4, w, b))), (1, .int t)]) hx hb dX0_forceOfStamps_3 rfl hl (by decide) rfl (fun ls hl => ?_)
  have loop4 : ∀ (z : Nat) (k : Nat) (x : Int32) (H : Heap) (locs : List Loc) (ls : Array Slot), cn - k = z → (k ≤ cn) → (x = q_forces m w b t k) → zH D cy ad L s.heap H locs m → lv_has ls 4 [(0, .ref (ad (4, w, b))), (1, .int t), (2, .int x), (3, .int (nI k))] → W p l e ({ frames := 1, cells := 0, slots := 0, locals := 21 } : Room) s mi [.ref (ad (4, w, b)), .int t].toArray below meth c H locs 0 0 (MQ below (zQi (fun r m1 => r = q_forces m w b t cn ∧ m1 = m) D cy ad L s.heap.size) [.ref (ad (4, w, b)), .int t].toArray s 0 0 (zA ad L s.heap.size)) (F0 mi 4 ls []) := by
    intro z
    induction z using Nat.strongRecOn with
    | _ z ih4 =>
    intro k x H locs ls hz4 i4_1 i4_2 hw hl
    refine lv_iload_n hx hb dX0_forceOfStamps_4 rfl (lv_at hl 3 rfl) ?_
    refine lv_aload_n hx hb dX0_forceOfStamps_5 rfl (lv_at hl 0 rfl) ?_
    refine zg_X0_38 C hw (zn4 hL gw (by omega)) dX0_forceOfStamps_6 ?_
    refine ztop hc ?_
    refine lv_icmp_ge (tgt := 31) hx hb dX0_forceOfStamps_9 (by decide) (fun c9_1 => ?_) (fun c9_1 => ?_)
    · skip
      have n2 := zle c9_1 (a := cn) (b := k) rfl rfl (by omega) (by omega)
      refine lv_iload_n hx hb dX0_forceOfStamps_31 rfl (lv_at hl 2 rfl) ?_
      exact zret_i C hr hlocks hw dX0_forceOfStamps_32 ⟨by rw [i4_2, show k = cn by omega], rfl⟩
    · skip
      have n3 := znle c9_1 (a := cn) (b := k) rfl rfl (by omega) (by omega)
      refine lv_iload_n hx hb dX0_forceOfStamps_12 rfl (lv_at hl 2 rfl) ?_
      refine lv_aload_n hx hb dX0_forceOfStamps_13 rfl (lv_at hl 0 rfl) ?_
      refine zg_X0_11 C hw (zn4 hL gw (by omega)) dX0_forceOfStamps_14 ?_
      refine lv_iload_n hx hb dX0_forceOfStamps_17 rfl (lv_at hl 3 rfl) ?_
      refine zald_5N C hw (zn5 hL gw (by omega)) k (by omega) rfl dX0_forceOfStamps_18 ?_
      refine lv_iload_n hx hb dX0_forceOfStamps_19 rfl (lv_at hl 1 rfl) ?_
      refine zafter_i C hw (zrunV (rest := [.int x]) C hml hl.1 hw (zn6 hL gw (by omega)) rfl rfl (c_X4_forceOfStamp l D cy ad m H.size hL gw (by omega) t) zv_X0_69 rfl rfl rfl ⟨Nat.le_of_ble_eq_true rfl, Nat.le_of_ble_eq_true rfl⟩ rfl (Nat.le_of_ble_eq_true rfl) dX0_forceOfStamps_20 ⟨Nat.zero_le _, Nat.zero_le _⟩) (fun r6 m5 H locs h4 hw => ?_)
      obtain ⟨er6, h4⟩ := h4
      rw [h4] at hw
      clear h4 m5
      refine lv_iadd hx hb dX0_forceOfStamps_23 ?_
      refine lv_topi (fun x7 ex7 => ?_)
      refine lv_istore_n (lv' := [(2, .int x7), (0, .ref (ad (4, w, b))), (1, .int t), (3, .int (nI k))]) hx hb dX0_forceOfStamps_24 rfl hl (by decide) rfl (fun ls hl => ?_)
      refine lv_iinc (v := (nI (k + 1))) (lv' := [(3, .int (nI (k + 1))), (2, .int x7), (0, .ref (ad (4, w, b))), (1, .int t)]) hx hb dX0_forceOfStamps_25 hl (k := 3) rfl (nI_1 k) (by decide) rfl (fun ls hl => ?_)
      refine lv_goto (tgt := 4) hx hb dX0_forceOfStamps_28 (by decide) ?_
      exact ih4 _ (by omega) (k + 1) x7 _ _ _ rfl (by omega) (by rw [ex7, i4_2, er6]; rfl) hw (lv_sub hl [2, 3, 1, 0] rfl)
  exact loop4 _ 0 0 _ _ _ rfl (Nat.zero_le _) rfl hw (lv_sub hl [2, 3, 1, 0] rfl)

set_option maxHeartbeats 4000000 in
set_option maxRecDepth 100000 in
theorem c_X0_tellOfBox (l : Launch) (D : va_G) (cy : Nat → ClassId) (ad : ZN → Nat) (m : ZM) (sz : Nat) {L : List ZN} (hL : zL L) {w b : Nat} (gw : w < 2) (gb : b < 4) {cn : Nat} (hc : m (4, w, b) 4 = nI cn) (lc : cn ≤ 4) (k : Int32) : Met l yX0_tellOfBox (zws yX0_tellOfBox cX0_tellOfBox 2 (some .int)) ({ frames := 1, cells := 0, slots := 0, locals := 22 } : Room) (zPc D cy ad L m sz [.ref (ad (4, w, b)), .int k]) (zQi (fun r m1 => r = q_tellBox m w b cn k ∧ m1 = m) D cy ad L sz) 0 0 (zA ad L sz) := by
  refine zopen (Qc := fun sz => zQi (fun r m1 => r = q_tellBox m w b cn k ∧ m1 = m) D cy ad L sz) RX0 (plainFor_of_name (by decide)) rfl (Nat.le_of_ble_eq_true rfl) ?_
  intro p e s mi below meth c ls C hr hlocks hml hl H locs hw
  obtain ⟨hx, hb, hts, hown, hK, hNw⟩ := id C
  have hl : lv_has ls 2 [(0, .ref (ad (4, w, b))), (1, .int k)] := hl
  refine lv_iload_n hx hb dX0_tellOfBox_0 rfl (lv_at hl 1 rfl) ?_
  by_cases q1 : k = 0
  · skip
    refine lv_tableIn (off := 59) (tgt := 60) hx hb dX0_tellOfBox_1 (by rw [q1]; decide) (by rw [q1]; decide) (by rw [q1]; rfl) (by decide) ?_
    refine lv_aload_n hx hb dX0_tellOfBox_60 rfl (lv_at hl 0 rfl) ?_
    refine zg_X0_38 C hw (zn4 hL gw (by omega)) dX0_tellOfBox_61 ?_
    exact zret_i C hr hlocks hw dX0_tellOfBox_64 ⟨((if_pos q1).symm), rfl⟩
  by_cases q2 : k = 1
  · skip
    refine lv_tableIn (off := 64) (tgt := 65) hx hb dX0_tellOfBox_1 (by rw [q2]; decide) (by rw [q2]; decide) (by rw [q2]; rfl) (by decide) ?_
    refine lv_aload_n hx hb dX0_tellOfBox_65 rfl (lv_at hl 0 rfl) ?_
    refine zg_X0_31 C hw (zn4 hL gw (by omega)) dX0_tellOfBox_66 ?_
    exact zret_i C hr hlocks hw dX0_tellOfBox_69 ⟨(((if_neg q1).trans (if_pos q2)).symm), rfl⟩
  by_cases q3 : k = 2
  · skip
    refine lv_tableIn (off := 69) (tgt := 70) hx hb dX0_tellOfBox_1 (by rw [q3]; decide) (by rw [q3]; decide) (by rw [q3]; rfl) (by decide) ?_
    refine lv_aload_n hx hb dX0_tellOfBox_70 rfl (lv_at hl 0 rfl) ?_
    refine zg_X0_47 C hw (zn4 hL gw (by omega)) dX0_tellOfBox_71 ?_
    exact zret_i C hr hlocks hw dX0_tellOfBox_74 ⟨(((if_neg q1).trans ((if_neg q2).trans (if_pos q3))).symm), rfl⟩
  by_cases q4 : k = 3
  · skip
    refine lv_tableIn (off := 74) (tgt := 75) hx hb dX0_tellOfBox_1 (by rw [q4]; decide) (by rw [q4]; decide) (by rw [q4]; rfl) (by decide) ?_
    refine lv_aload_n hx hb dX0_tellOfBox_75 rfl (lv_at hl 0 rfl) ?_
    refine zg_X0_35 C hw (zn4 hL gw (by omega)) dX0_tellOfBox_76 ?_
    exact zret_i C hr hlocks hw dX0_tellOfBox_79 ⟨(((if_neg q1).trans ((if_neg q2).trans ((if_neg q3).trans (if_pos q4)))).symm), rfl⟩
  by_cases q5 : k = 4
  · skip
    refine lv_tableIn (off := 79) (tgt := 80) hx hb dX0_tellOfBox_1 (by rw [q5]; decide) (by rw [q5]; decide) (by rw [q5]; rfl) (by decide) ?_
    refine lv_aload_n hx hb dX0_tellOfBox_80 rfl (lv_at hl 0 rfl) ?_
    refine zg_X0_21 C hw (zn4 hL gw (by omega)) dX0_tellOfBox_81 ?_
    refine zg_X0_50 C hw (zn7 hL gw (by omega)) dX0_tellOfBox_84 ?_
    exact zret_i C hr hlocks hw dX0_tellOfBox_87 ⟨(((if_neg q1).trans ((if_neg q2).trans ((if_neg q3).trans ((if_neg q4).trans (if_pos q5))))).symm), rfl⟩
  by_cases q6 : k = 5
  · skip
    refine lv_tableIn (off := 87) (tgt := 88) hx hb dX0_tellOfBox_1 (by rw [q6]; decide) (by rw [q6]; decide) (by rw [q6]; rfl) (by decide) ?_
    refine lv_aload_n hx hb dX0_tellOfBox_88 rfl (lv_at hl 0 rfl) ?_
    refine zg_X0_25 C hw (zn4 hL gw (by omega)) dX0_tellOfBox_89 ?_
    refine zg_X0_50 C hw (zn7 hL gw (by omega)) dX0_tellOfBox_92 ?_
    exact zret_i C hr hlocks hw dX0_tellOfBox_95 ⟨(((if_neg q1).trans ((if_neg q2).trans ((if_neg q3).trans ((if_neg q4).trans ((if_neg q5).trans (if_pos q6)))))).symm), rfl⟩
  by_cases q7 : k = 6
  · skip
    refine lv_tableIn (off := 95) (tgt := 96) hx hb dX0_tellOfBox_1 (by rw [q7]; decide) (by rw [q7]; decide) (by rw [q7]; rfl) (by decide) ?_
    refine lv_aload_n hx hb dX0_tellOfBox_96 rfl (lv_at hl 0 rfl) ?_
    refine zg_X0_28 C hw (zn4 hL gw (by omega)) dX0_tellOfBox_97 ?_
    refine zg_X0_50 C hw (zn7 hL gw (by omega)) dX0_tellOfBox_100 ?_
    exact zret_i C hr hlocks hw dX0_tellOfBox_103 ⟨(((if_neg q1).trans ((if_neg q2).trans ((if_neg q3).trans ((if_neg q4).trans ((if_neg q5).trans ((if_neg q6).trans (if_pos q7))))))).symm), rfl⟩
  by_cases q8 : k = 7
  · skip
    refine lv_tableIn (off := 103) (tgt := 104) hx hb dX0_tellOfBox_1 (by rw [q8]; decide) (by rw [q8]; decide) (by rw [q8]; rfl) (by decide) ?_
    refine lv_aload_n hx hb dX0_tellOfBox_104 rfl (lv_at hl 0 rfl) ?_
    refine zg_X0_21 C hw (zn4 hL gw (by omega)) dX0_tellOfBox_105 ?_
    refine zg_X0_53 C hw (zn7 hL gw (by omega)) dX0_tellOfBox_108 ?_
    exact zret_i C hr hlocks hw dX0_tellOfBox_111 ⟨(((if_neg q1).trans ((if_neg q2).trans ((if_neg q3).trans ((if_neg q4).trans ((if_neg q5).trans ((if_neg q6).trans ((if_neg q7).trans (if_pos q8)))))))).symm), rfl⟩
  by_cases q9 : k = 8
  · skip
    refine lv_tableIn (off := 111) (tgt := 112) hx hb dX0_tellOfBox_1 (by rw [q9]; decide) (by rw [q9]; decide) (by rw [q9]; rfl) (by decide) ?_
    refine lv_aload_n hx hb dX0_tellOfBox_112 rfl (lv_at hl 0 rfl) ?_
    refine zg_X0_25 C hw (zn4 hL gw (by omega)) dX0_tellOfBox_113 ?_
    refine zg_X0_53 C hw (zn7 hL gw (by omega)) dX0_tellOfBox_116 ?_
    exact zret_i C hr hlocks hw dX0_tellOfBox_119 ⟨(((if_neg q1).trans ((if_neg q2).trans ((if_neg q3).trans ((if_neg q4).trans ((if_neg q5).trans ((if_neg q6).trans ((if_neg q7).trans ((if_neg q8).trans (if_pos q9))))))))).symm), rfl⟩
  by_cases q10 : k = 9
  · skip
    refine lv_tableIn (off := 119) (tgt := 120) hx hb dX0_tellOfBox_1 (by rw [q10]; decide) (by rw [q10]; decide) (by rw [q10]; rfl) (by decide) ?_
    refine lv_aload_n hx hb dX0_tellOfBox_120 rfl (lv_at hl 0 rfl) ?_
    refine zg_X0_28 C hw (zn4 hL gw (by omega)) dX0_tellOfBox_121 ?_
    refine zg_X0_53 C hw (zn7 hL gw (by omega)) dX0_tellOfBox_124 ?_
    exact zret_i C hr hlocks hw dX0_tellOfBox_127 ⟨(((if_neg q1).trans ((if_neg q2).trans ((if_neg q3).trans ((if_neg q4).trans ((if_neg q5).trans ((if_neg q6).trans ((if_neg q7).trans ((if_neg q8).trans ((if_neg q9).trans (if_pos q10)))))))))).symm), rfl⟩
  by_cases q11 : k = 10
  · skip
    refine lv_tableIn (off := 127) (tgt := 128) hx hb dX0_tellOfBox_1 (by rw [q11]; decide) (by rw [q11]; decide) (by rw [q11]; rfl) (by decide) ?_
    refine lv_aload_n hx hb dX0_tellOfBox_128 rfl (lv_at hl 0 rfl) ?_
    refine zafter_i C hw (zrunV (rest := []) C hml hl.1 hw (zn4 hL gw (by omega)) rfl rfl (c_X0_wearOfStamps l D cy ad m H.size hL gw gb hc lc) zv_X0_56 rfl rfl rfl ⟨Nat.le_of_ble_eq_true rfl, Nat.le_of_ble_eq_true rfl⟩ rfl (Nat.le_of_ble_eq_true rfl) dX0_tellOfBox_129 ⟨Nat.zero_le _, Nat.zero_le _⟩) (fun r14 m13 H locs h12 hw => ?_)
    obtain ⟨er14, h12⟩ := h12
    rw [h12] at hw
    clear h12 m13
    exact zret_i C hr hlocks hw dX0_tellOfBox_132 ⟨(er14.trans ((if_neg q1).trans ((if_neg q2).trans ((if_neg q3).trans ((if_neg q4).trans ((if_neg q5).trans ((if_neg q6).trans ((if_neg q7).trans ((if_neg q8).trans ((if_neg q9).trans ((if_neg q10).trans (if_pos q11))))))))))).symm), rfl⟩
  refine lv_tableOut (tgt := 133) hx hb dX0_tellOfBox_1 (zsw11 q1 q2 q3 q4 q5 q6 q7 q8 q9 q10 q11) (by decide) ?_
  refine lv_aload_n hx hb dX0_tellOfBox_133 rfl (lv_at hl 0 rfl) ?_
  refine zg_X0_60 C hw (zn4 hL gw (by omega)) dX0_tellOfBox_134 ?_
  exact zret_i C hr hlocks hw dX0_tellOfBox_137 ⟨(((if_neg q1).trans ((if_neg q2).trans ((if_neg q3).trans ((if_neg q4).trans ((if_neg q5).trans ((if_neg q6).trans ((if_neg q7).trans ((if_neg q8).trans ((if_neg q9).trans ((if_neg q10).trans (if_neg q11))))))))))).symm), rfl⟩

set_option maxHeartbeats 4000000 in
set_option maxRecDepth 100000 in
theorem c_X0_blow (l : Launch) (D : va_G) (cy : Nat → ClassId) (ad : ZN → Nat) (m : ZM) (sz : Nat) {L : List ZN} (hL : zL L) {w b : Nat} (gw : w < 2) (gb : b < 4) {cn : Nat} (hc : m (4, w, b) 4 = nI cn) (lc : cn ≤ 4) (t : Int32) : Met l yX0_blow (zws yX0_blow cX0_blow 3 none) ({ frames := 2, cells := 0, slots := 0, locals := 46 } : Room) (zPc D cy ad L m sz [.ref (ad (4, w, b)), .int t]) (zQv (fun m1 => m1 = q_blow m w b cn t) D cy ad L sz) 0 0 (zA ad L sz) := by
  refine zopen (Qc := fun sz => zQv (fun m1 => m1 = q_blow m w b cn t) D cy ad L sz) RX0 (plainFor_of_name (by decide)) rfl (Nat.le_of_ble_eq_true rfl) ?_
  intro p e s mi below meth c ls C hr hlocks hml hl H locs hw
  obtain ⟨hx, hb, hts, hown, hK, hNw⟩ := id C
  have hl : lv_has ls 3 [(0, .ref (ad (4, w, b))), (1, .int t)] := hl
  refine lv_aload_n hx hb dX0_blow_0 rfl (lv_at hl 0 rfl) ?_
  refine lv_aload_n hx hb dX0_blow_1 rfl (lv_at hl 0 rfl) ?_
  refine lv_iload_n hx hb dX0_blow_2 rfl (lv_at hl 1 rfl) ?_
  refine zafter_i C hw (zrunV (rest := [.ref (ad (4, w, b))]) C hml hl.1 hw (zn4 hL gw (by omega)) rfl rfl (c_X0_forceOfStamps l D cy ad m H.size hL gw gb hc lc t) zv_X0_73 rfl rfl rfl ⟨Nat.le_of_ble_eq_true rfl, Nat.le_of_ble_eq_true rfl⟩ rfl (Nat.le_of_ble_eq_true rfl) dX0_blow_3 ⟨Nat.zero_le _, Nat.zero_le _⟩) (fun r3 m2 H locs h1 hw => ?_)
  obtain ⟨er3, h1⟩ := h1
  rw [h1] at hw
  clear h1 m2
  refine zp_X0_60 C hw (zn4 hL gw (by omega)) dX0_blow_6 (fun H locs m4 em4 hw => ?_)
  refine lv_iconst (v := 1) hx hb dX0_blow_9 (by decide) ?_
  refine lv_aload_n hx hb dX0_blow_10 rfl (lv_at hl 0 rfl) ?_
  refine zg_X0_35 C hw (zn4 hL gw (by omega)) dX0_blow_11 ?_
  refine va_mmax hx hb (hml.trans hl.1.symm) hown (hts _ zL_X0_76) (hts _ zT_max) (hts _ zN_Math) (hts _ zO_max) (Nat.le_of_ble_eq_true rfl) (Nat.le_of_ble_eq_true rfl) (Nat.zero_le _) (Nat.zero_le _) dX0_blow_14 ?_
  refine lv_topi (fun x5 ex5 => ?_)
  refine lv_istore_n (lv' := [(2, .int x5), (0, .ref (ad (4, w, b))), (1, .int t)]) hx hb dX0_blow_17 rfl hl (by decide) rfl (fun ls hl => ?_)
  refine lv_aload_n hx hb dX0_blow_18 rfl (lv_at hl 1 rfl) ?_
  refine zg_X0_21 C hw (zn4 hL gw (by omega)) dX0_blow_19 ?_
  refine lv_aload_n hx hb dX0_blow_22 rfl (lv_at hl 1 rfl) ?_
  refine zg_X0_25 C hw (zn4 hL gw (by omega)) dX0_blow_23 ?_
  refine lv_aload_n hx hb dX0_blow_26 rfl (lv_at hl 1 rfl) ?_
  refine zg_X0_60 C hw (zn4 hL gw (by omega)) dX0_blow_27 ?_
  refine lv_iload_n hx hb dX0_blow_30 rfl (lv_at hl 0 rfl) ?_
  refine lv_idiv hx hb dX0_blow_31 (by rw [ex5]; exact q_max1_ne) ?_
  refine zafter_i C hw (zrunV (rest := []) C hml hl.1 hw (zn7 hL gw (by omega)) rfl rfl (c_X3_moveTo l D cy ad m4 H.size hL gw (by omega) gw (by omega) ((m4 (4, w, b) 8) / x5)) zv_X0_82 rfl rfl rfl ⟨Nat.le_of_ble_eq_true rfl, Nat.le_of_ble_eq_true rfl⟩ rfl (Nat.le_of_ble_eq_true rfl) dX0_blow_32 ⟨Nat.zero_le _, Nat.zero_le _⟩) (fun r8 m7 H locs h6 hw => ?_)
  obtain ⟨er8, em7⟩ := h6
  refine lv_pop hx hb dX0_blow_35 rfl ?_
  refine lv_aload_n hx hb dX0_blow_36 rfl (lv_at hl 1 rfl) ?_
  refine zg_X0_25 C hw (zn4 hL gw (by omega)) dX0_blow_37 ?_
  refine lv_aload_n hx hb dX0_blow_40 rfl (lv_at hl 1 rfl) ?_
  refine zg_X0_28 C hw (zn4 hL gw (by omega)) dX0_blow_41 ?_
  refine lv_aload_n hx hb dX0_blow_44 rfl (lv_at hl 1 rfl) ?_
  refine zg_X0_60 C hw (zn4 hL gw (by omega)) dX0_blow_45 ?_
  refine lv_iconst (v := 2) hx hb dX0_blow_48 (by decide) ?_
  refine lv_iload_n hx hb dX0_blow_49 rfl (lv_at hl 0 rfl) ?_
  refine lv_imul hx hb dX0_blow_50 ?_
  refine lv_idiv hx hb dX0_blow_51 (by rw [ex5]; exact q_max2_ne) ?_
  refine zafter_i C hw (zrunV (rest := []) C hml hl.1 hw (zn7 hL gw (by omega)) rfl rfl (c_X3_moveTo l D cy ad m7 H.size hL gw (by omega) gw (by omega) ((m7 (4, w, b) 8) / (2 * x5))) zv_X0_82 rfl rfl rfl ⟨Nat.le_of_ble_eq_true rfl, Nat.le_of_ble_eq_true rfl⟩ rfl (Nat.le_of_ble_eq_true rfl) dX0_blow_52 ⟨Nat.zero_le _, Nat.zero_le _⟩) (fun r11 m10 H locs h9 hw => ?_)
  obtain ⟨er11, em10⟩ := h9
  refine lv_pop hx hb dX0_blow_55 rfl ?_
  exact zret_v C hr hlocks hw dX0_blow_56 (by first | rfl | (subst_vars; first | rfl))

set_option maxHeartbeats 4000000 in
set_option maxRecDepth 100000 in
theorem c_X0_loseSlime (l : Launch) (D : va_G) (cy : Nat → ClassId) (ad : ZN → Nat) (m : ZM) (sz : Nat) {L : List ZN} (hL : zL L) {w b : Nat} (gw : w < 2) (gb : b < 4) : Met l yX0_loseSlime (zws yX0_loseSlime cX0_loseSlime 2 (some .int)) ({ frames := 1, cells := 0, slots := 0, locals := 21 } : Room) (zPc D cy ad L m sz [.ref (ad (4, w, b))]) (zQi (fun r m1 => r = q_slimeR m w b ∧ m1 = q_slimeM m w b) D cy ad L sz) 0 0 (zA ad L sz) := by
  refine zopen (Qc := fun sz => zQi (fun r m1 => r = q_slimeR m w b ∧ m1 = q_slimeM m w b) D cy ad L sz) RX0 (plainFor_of_name (by decide)) rfl (Nat.le_of_ble_eq_true rfl) ?_
  intro p e s mi below meth c ls C hr hlocks hml hl H locs hw
  obtain ⟨hx, hb, hts, hown, hK, hNw⟩ := id C
  have hl : lv_has ls 2 [(0, .ref (ad (4, w, b)))] := hl
  refine lv_aload_n hx hb dX0_loseSlime_0 rfl (lv_at hl 0 rfl) ?_
  refine zg_X0_28 C hw (zn4 hL gw (by omega)) dX0_loseSlime_1 ?_
  refine zg_X0_53 C hw (zn7 hL gw (by omega)) dX0_loseSlime_4 ?_
  refine lv_iconst (v := 1) hx hb dX0_loseSlime_7 (by decide) ?_
  refine lv_aload_n hx hb dX0_loseSlime_8 rfl (lv_at hl 0 rfl) ?_
  refine zg_X0_28 C hw (zn4 hL gw (by omega)) dX0_loseSlime_9 ?_
  refine zg_X0_53 C hw (zn7 hL gw (by omega)) dX0_loseSlime_12 ?_
  refine lv_bipush (v := 10) hx hb dX0_loseSlime_15 (by decide) ?_
  refine lv_idiv hx hb dX0_loseSlime_17 (by decide) ?_
  refine va_mmax hx hb (hml.trans hl.1.symm) hown (hts _ zL_X0_76) (hts _ zT_max) (hts _ zN_Math) (hts _ zO_max) (Nat.le_of_ble_eq_true rfl) (Nat.le_of_ble_eq_true rfl) (Nat.zero_le _) (Nat.zero_le _) dX0_loseSlime_18 ?_
  refine va_mmin hx hb (hml.trans hl.1.symm) hown (hts _ zL_X0_86) (hts _ zT_min) (hts _ zN_Math) (hts _ zO_min) (Nat.le_of_ble_eq_true rfl) (Nat.le_of_ble_eq_true rfl) (Nat.zero_le _) (Nat.zero_le _) dX0_loseSlime_21 ?_
  refine lv_topi (fun x1 ex1 => ?_)
  refine lv_istore_n (lv' := [(1, .int x1), (0, .ref (ad (4, w, b)))]) hx hb dX0_loseSlime_24 rfl hl (by decide) rfl (fun ls hl => ?_)
  refine lv_aload_n hx hb dX0_loseSlime_25 rfl (lv_at hl 1 rfl) ?_
  refine zg_X0_28 C hw (zn4 hL gw (by omega)) dX0_loseSlime_26 ?_
  refine lv_dup hx hb dX0_loseSlime_29 rfl ?_
  refine zg_X0_53 C hw (zn7 hL gw (by omega)) dX0_loseSlime_30 ?_
  refine lv_iload_n hx hb dX0_loseSlime_33 rfl (lv_at hl 0 rfl) ?_
  refine lv_isub hx hb dX0_loseSlime_34 ?_
  refine zp_X0_53 C hw (zn7 hL gw (by omega)) dX0_loseSlime_35 (fun H locs m2 em2 hw => ?_)
  refine lv_iload_n hx hb dX0_loseSlime_38 rfl (lv_at hl 0 rfl) ?_
  exact zret_i C hr hlocks hw dX0_loseSlime_39 ⟨(by first | rfl | (subst_vars; first | rfl)), (by first | rfl | (subst_vars; first | rfl))⟩

set_option maxHeartbeats 4000000 in
set_option maxRecDepth 100000 in
theorem c_X0_grate (l : Launch) (D : va_G) (cy : Nat → ClassId) (ad : ZN → Nat) (m : ZM) (sz : Nat) {L : List ZN} (hL : zL L) {w b v u : Nat} (gw : w < 2) (gb : b < 4) (gv : v < 2) (gu : u < 47) (x : Int32) : Met l yX0_grate (zws yX0_grate cX0_grate 3 none) ({ frames := 2, cells := 0, slots := 0, locals := 46 } : Room) (zPc D cy ad L m sz [.ref (ad (4, w, b)), .ref (ad (7, v, u)), .int x]) (zQv (fun m1 => m1 = q_grate m w b (7, v, u) x) D cy ad L sz) 0 0 (zA ad L sz) := by
  refine zopen (Qc := fun sz => zQv (fun m1 => m1 = q_grate m w b (7, v, u) x) D cy ad L sz) RX0 (plainFor_of_name (by decide)) rfl (Nat.le_of_ble_eq_true rfl) ?_
  intro p e s mi below meth c ls C hr hlocks hml hl H locs hw
  obtain ⟨hx, hb, hts, hown, hK, hNw⟩ := id C
  have hl : lv_has ls 3 [(0, .ref (ad (4, w, b))), (1, .ref (ad (7, v, u))), (2, .int x)] := hl
  refine lv_aload_n hx hb dX0_grate_0 rfl (lv_at hl 0 rfl) ?_
  refine zg_X0_28 C hw (zn4 hL gw (by omega)) dX0_grate_1 ?_
  refine lv_aload_n hx hb dX0_grate_4 rfl (lv_at hl 1 rfl) ?_
  refine lv_iload_n hx hb dX0_grate_5 rfl (lv_at hl 2 rfl) ?_
  refine lv_iconst (v := 4) hx hb dX0_grate_6 (by decide) ?_
  refine lv_idiv hx hb dX0_grate_7 (by decide) ?_
  refine lv_sipush (v := 6000) hx hb dX0_grate_8 (by decide) ?_
  refine lv_aload_n hx hb dX0_grate_11 rfl (lv_at hl 1 rfl) ?_
  refine zafter_i C hw (zrunV (rest := [.int 6000, .int (x / 4), .ref (ad (7, v, u)), .ref (ad (7, w, 3 * b + 2))]) C hml hl.1 hw (zn7 hL gv (by omega)) rfl rfl (c_X3_whole l D cy ad m H.size hL gv gu) zv_X0_89 rfl rfl rfl ⟨Nat.le_of_ble_eq_true rfl, Nat.le_of_ble_eq_true rfl⟩ rfl (Nat.le_of_ble_eq_true rfl) dX0_grate_12 ⟨Nat.zero_le _, Nat.zero_le _⟩) (fun r3 m2 H locs h1 hw => ?_)
  obtain ⟨er3, h1⟩ := h1
  rw [h1] at hw
  clear h1 m2
  refine lv_isub hx hb dX0_grate_15 ?_
  refine va_mmin hx hb (hml.trans hl.1.symm) hown (hts _ zL_X0_86) (hts _ zT_min) (hts _ zN_Math) (hts _ zO_min) (Nat.le_of_ble_eq_true rfl) (Nat.le_of_ble_eq_true rfl) (Nat.zero_le _) (Nat.zero_le _) dX0_grate_16 ?_
  refine zafter_i C hw (zrunV (rest := []) C hml hl.1 hw (zn7 hL gw (by omega)) rfl rfl (c_X3_moveTo l D cy ad m H.size hL gw (by omega) gv gu (if (6000 - r3) < (x / 4) then (6000 - r3) else (x / 4))) zv_X0_82 rfl rfl rfl ⟨Nat.le_of_ble_eq_true rfl, Nat.le_of_ble_eq_true rfl⟩ rfl (Nat.le_of_ble_eq_true rfl) dX0_grate_19 ⟨Nat.zero_le _, Nat.zero_le _⟩) (fun r6 m5 H locs h4 hw => ?_)
  obtain ⟨er6, em5⟩ := h4
  refine lv_pop hx hb dX0_grate_22 rfl ?_
  exact zret_v C hr hlocks hw dX0_grate_23 (by first | rfl | (subst_vars; first | rfl))

set_option maxHeartbeats 4000000 in
set_option maxRecDepth 100000 in
theorem c_X0_wearStamps (l : Launch) (D : va_G) (cy : Nat → ClassId) (ad : ZN → Nat) (m : ZM) (sz : Nat) {L : List ZN} (hL : zL L) {w b : Nat} (gw : w < 2) (gb : b < 4) {cn : Nat} (hc : m (4, w, b) 4 = nI cn) (lc : cn ≤ 4) (t : Int32) : Met l yX0_wearStamps (zws yX0_wearStamps cX0_wearStamps 3 none) ({ frames := 2, cells := 0, slots := 0, locals := 42 } : Room) (zPc D cy ad L m sz [.ref (ad (4, w, b)), .int t]) (zQv (fun m1 => m1 = q_wearS m w b t cn) D cy ad L sz) 0 0 (zA ad L sz) := by
  refine zopen (Qc := fun sz => zQv (fun m1 => m1 = q_wearS m w b t cn) D cy ad L sz) RX0 (plainFor_of_name (by decide)) rfl (Nat.le_of_ble_eq_true rfl) ?_
  intro p e s mi below meth c ls C hr hlocks hml hl H locs hw
  obtain ⟨hx, hb, hts, hown, hK, hNw⟩ := id C
  have hl : lv_has ls 3 [(0, .ref (ad (4, w, b))), (1, .int t)] := hl
  refine lv_iconst (v := 0) hx hb dX0_wearStamps_0 (by decide) ?_
  refine lv_istore_n (lv' := [(2, .int 0), (0, .ref (ad (4, w, b))), (1, .int t)]) hx hb dX0_wearStamps_1 rfl hl (by decide) rfl (fun ls hl => ?_)
  have loop2 : ∀ (z : Nat) (k : Nat) (m0 : ZM) (H : Heap) (locs : List Loc) (ls : Array Slot), cn - k = z → (k ≤ cn) → (m0 = q_wearS m w b t k) → zH D cy ad L s.heap H locs m0 → lv_has ls 3 [(0, .ref (ad (4, w, b))), (1, .int t), (2, .int (nI k))] → W p l e ({ frames := 2, cells := 0, slots := 0, locals := 42 } : Room) s mi [.ref (ad (4, w, b)), .int t].toArray below meth c H locs 0 0 (MQ below (zQv (fun m1 => m1 = q_wearS m w b t cn) D cy ad L s.heap.size) [.ref (ad (4, w, b)), .int t].toArray s 0 0 (zA ad L s.heap.size)) (F0 mi 2 ls []) := by
    intro z
    induction z using Nat.strongRecOn with
    | _ z ih2 =>
    intro k m0 H locs ls hz2 i2_1 i2_2 hw hl
    have h1 : m0 (4, w, b) 4 = nI cn := by rw [i2_2, q_wearS_k (zk rfl)]; exact hc
    refine lv_iload_n hx hb dX0_wearStamps_2 rfl (lv_at hl 2 rfl) ?_
    refine lv_aload_n hx hb dX0_wearStamps_3 rfl (lv_at hl 0 rfl) ?_
    refine zg_X0_38 C hw (zn4 hL gw (by omega)) dX0_wearStamps_4 ?_
    refine ztop h1 ?_
    refine lv_icmp_ge (tgt := 26) hx hb dX0_wearStamps_7 (by decide) (fun c7_1 => ?_) (fun c7_1 => ?_)
    · skip
      have n2 := zle c7_1 (a := cn) (b := k) rfl rfl (by omega) (by omega)
      exact zret_v C hr hlocks hw dX0_wearStamps_26 (by rw [i2_2, show k = cn by omega])
    · skip
      have n3 := znle c7_1 (a := cn) (b := k) rfl rfl (by omega) (by omega)
      refine lv_aload_n hx hb dX0_wearStamps_10 rfl (lv_at hl 0 rfl) ?_
      refine zg_X0_11 C hw (zn4 hL gw (by omega)) dX0_wearStamps_11 ?_
      refine lv_iload_n hx hb dX0_wearStamps_14 rfl (lv_at hl 2 rfl) ?_
      refine zald_5N C hw (zn5 hL gw (by omega)) k (by omega) rfl dX0_wearStamps_15 ?_
      refine lv_iload_n hx hb dX0_wearStamps_16 rfl (lv_at hl 1 rfl) ?_
      refine zafter_v C hw (zrunV (rest := []) C hml hl.1 hw (zn6 hL gw (by omega)) rfl rfl (c_X4_wearBy l D cy ad m0 H.size hL gw (by omega) t) zv_X0_92 rfl rfl rfl ⟨Nat.le_of_ble_eq_true rfl, Nat.le_of_ble_eq_true rfl⟩ rfl (Nat.le_of_ble_eq_true rfl) dX0_wearStamps_17 ⟨Nat.zero_le _, Nat.zero_le _⟩) (fun m5 H locs h4 hw => ?_)
      have em5 := h4
      refine lv_iinc (v := (nI (k + 1))) (lv' := [(2, .int (nI (k + 1))), (0, .ref (ad (4, w, b))), (1, .int t)]) hx hb dX0_wearStamps_20 hl (k := 2) rfl (nI_1 k) (by decide) rfl (fun ls hl => ?_)
      refine lv_goto (tgt := 2) hx hb dX0_wearStamps_23 (by decide) ?_
      exact ih2 _ (by omega) (k + 1) m5 _ _ _ rfl (by omega) (by rw [em5, i2_2]; rfl) hw (lv_sub hl [1, 2, 0] rfl)
  exact loop2 _ 0 m _ _ _ rfl (Nat.zero_le _) rfl hw (lv_sub hl [1, 2, 0] rfl)

set_option maxHeartbeats 4000000 in
set_option maxRecDepth 100000 in
theorem c_X0_copyBox (l : Launch) (D : va_G) (cy : Nat → ClassId) (ad : ZN → Nat) (m : ZM) (sz : Nat) {L : List ZN} (hL : zL L) {w b v d : Nat} (gw : w < 2) (gb : b < 4) (gv : v < 2) (gd : d < 4) {cn : Nat} (hc : m (4, v, d) 4 = nI cn) (lc : cn ≤ 4) : Met l yX0_copyBox (zws yX0_copyBox cX0_copyBox 3 none) ({ frames := 2, cells := 0, slots := 0, locals := 43 } : Room) (zPc D cy ad L m sz [.ref (ad (4, w, b)), .ref (ad (4, v, d))]) (zQv (fun m1 => m1 = q_copyBox m w b v d cn) D cy ad L sz) 0 0 (zA ad L sz) := by
  refine zopen (Qc := fun sz => zQv (fun m1 => m1 = q_copyBox m w b v d cn) D cy ad L sz) RX0 (plainFor_of_name (by decide)) rfl (Nat.le_of_ble_eq_true rfl) ?_
  intro p e s mi below meth c ls C hr hlocks hml hl H locs hw
  obtain ⟨hx, hb, hts, hown, hK, hNw⟩ := id C
  have hl : lv_has ls 3 [(0, .ref (ad (4, w, b))), (1, .ref (ad (4, v, d)))] := hl
  refine lv_aload_n hx hb dX0_copyBox_0 rfl (lv_at hl 0 rfl) ?_
  refine lv_aload_n hx hb dX0_copyBox_1 rfl (lv_at hl 1 rfl) ?_
  refine zg_X0_38 C hw (zn4 hL gv (by omega)) dX0_copyBox_2 ?_
  refine zp_X0_38 C hw (zn4 hL gw (by omega)) dX0_copyBox_5 (fun H locs m1 em1 hw => ?_)
  refine lv_iconst (v := 0) hx hb dX0_copyBox_8 (by decide) ?_
  refine lv_istore_n (lv' := [(2, .int 0), (0, .ref (ad (4, w, b))), (1, .ref (ad (4, v, d)))]) hx hb dX0_copyBox_9 rfl hl (by decide) rfl (fun ls hl => ?_)
  have loop10 : ∀ (z : Nat) (k : Nat) (m0 : ZM) (H : Heap) (locs : List Loc) (ls : Array Slot), cn - k = z → (k ≤ cn) → (m0 = q_cpStamps w b v d (zs m (4, w, b) 4 (m (4, v, d) 4)) k) → zH D cy ad L s.heap H locs m0 → lv_has ls 3 [(0, .ref (ad (4, w, b))), (1, .ref (ad (4, v, d))), (2, .int (nI k))] → W p l e ({ frames := 2, cells := 0, slots := 0, locals := 43 } : Room) s mi [.ref (ad (4, w, b)), .ref (ad (4, v, d))].toArray below meth c H locs 0 0 (MQ below (zQv (fun m1 => m1 = q_copyBox m w b v d cn) D cy ad L s.heap.size) [.ref (ad (4, w, b)), .ref (ad (4, v, d))].toArray s 0 0 (zA ad L s.heap.size)) (F0 mi 10 ls []) := by
    intro z
    induction z using Nat.strongRecOn with
    | _ z ih10 =>
    intro k m0 H locs ls hz10 i10_1 i10_2 hw hl
    have h1 : m0 (4, w, b) 4 = nI cn := by rw [i10_2, q_cpStamps_k (zk rfl), zs_eq rfl]; exact hc
    refine lv_iload_n hx hb dX0_copyBox_10 rfl (lv_at hl 2 rfl) ?_
    refine lv_aload_n hx hb dX0_copyBox_11 rfl (lv_at hl 0 rfl) ?_
    refine zg_X0_38 C hw (zn4 hL gw (by omega)) dX0_copyBox_12 ?_
    refine ztop h1 ?_
    refine lv_icmp_ge (tgt := 39) hx hb dX0_copyBox_15 (by decide) (fun c15_2 => ?_) (fun c15_2 => ?_)
    · skip
      have n3 := zle c15_2 (a := cn) (b := k) rfl rfl (by omega) (by omega)
      refine lv_aload_n hx hb dX0_copyBox_39 rfl (lv_at hl 0 rfl) ?_
      refine zg_X0_21 C hw (zn4 hL gw (by omega)) dX0_copyBox_40 ?_
      refine lv_aload_n hx hb dX0_copyBox_43 rfl (lv_at hl 1 rfl) ?_
      refine zg_X0_21 C hw (zn4 hL gv (by omega)) dX0_copyBox_44 ?_
      refine zafter_v C hw (zrunV (rest := []) C hml hl.1 hw (zn7 hL gw (by omega)) rfl rfl (c_X3_copyOre l D cy ad m0 H.size hL gw (by omega) gv (by omega)) zv_X0_100 rfl rfl rfl ⟨Nat.le_of_ble_eq_true rfl, Nat.le_of_ble_eq_true rfl⟩ rfl (Nat.le_of_ble_eq_true rfl) dX0_copyBox_47 ⟨Nat.zero_le _, Nat.zero_le _⟩) (fun m5 H locs h4 hw => ?_)
      have em5 := h4
      refine lv_aload_n hx hb dX0_copyBox_50 rfl (lv_at hl 0 rfl) ?_
      refine zg_X0_25 C hw (zn4 hL gw (by omega)) dX0_copyBox_51 ?_
      refine lv_aload_n hx hb dX0_copyBox_54 rfl (lv_at hl 1 rfl) ?_
      refine zg_X0_25 C hw (zn4 hL gv (by omega)) dX0_copyBox_55 ?_
      refine zafter_v C hw (zrunV (rest := []) C hml hl.1 hw (zn7 hL gw (by omega)) rfl rfl (c_X3_copyOre l D cy ad m5 H.size hL gw (by omega) gv (by omega)) zv_X0_100 rfl rfl rfl ⟨Nat.le_of_ble_eq_true rfl, Nat.le_of_ble_eq_true rfl⟩ rfl (Nat.le_of_ble_eq_true rfl) dX0_copyBox_58 ⟨Nat.zero_le _, Nat.zero_le _⟩) (fun m8 H locs h7 hw => ?_)
      have em8 := h7
      refine lv_aload_n hx hb dX0_copyBox_61 rfl (lv_at hl 0 rfl) ?_
      refine zg_X0_28 C hw (zn4 hL gw (by omega)) dX0_copyBox_62 ?_
      refine lv_aload_n hx hb dX0_copyBox_65 rfl (lv_at hl 1 rfl) ?_
      refine zg_X0_28 C hw (zn4 hL gv (by omega)) dX0_copyBox_66 ?_
      refine zafter_v C hw (zrunV (rest := []) C hml hl.1 hw (zn7 hL gw (by omega)) rfl rfl (c_X3_copyOre l D cy ad m8 H.size hL gw (by omega) gv (by omega)) zv_X0_100 rfl rfl rfl ⟨Nat.le_of_ble_eq_true rfl, Nat.le_of_ble_eq_true rfl⟩ rfl (Nat.le_of_ble_eq_true rfl) dX0_copyBox_69 ⟨Nat.zero_le _, Nat.zero_le _⟩) (fun m11 H locs h10 hw => ?_)
      have em11 := h10
      refine lv_aload_n hx hb dX0_copyBox_72 rfl (lv_at hl 0 rfl) ?_
      refine lv_aload_n hx hb dX0_copyBox_73 rfl (lv_at hl 1 rfl) ?_
      refine zg_X0_31 C hw (zn4 hL gv (by omega)) dX0_copyBox_74 ?_
      refine zp_X0_31 C hw (zn4 hL gw (by omega)) dX0_copyBox_77 (fun H locs m13 em13 hw => ?_)
      refine lv_aload_n hx hb dX0_copyBox_80 rfl (lv_at hl 0 rfl) ?_
      refine lv_aload_n hx hb dX0_copyBox_81 rfl (lv_at hl 1 rfl) ?_
      refine zg_X0_47 C hw (zn4 hL gv (by omega)) dX0_copyBox_82 ?_
      refine zp_X0_47 C hw (zn4 hL gw (by omega)) dX0_copyBox_85 (fun H locs m14 em14 hw => ?_)
      refine lv_aload_n hx hb dX0_copyBox_88 rfl (lv_at hl 0 rfl) ?_
      refine lv_aload_n hx hb dX0_copyBox_89 rfl (lv_at hl 1 rfl) ?_
      refine zg_X0_35 C hw (zn4 hL gv (by omega)) dX0_copyBox_90 ?_
      refine zp_X0_35 C hw (zn4 hL gw (by omega)) dX0_copyBox_93 (fun H locs m15 em15 hw => ?_)
      refine lv_aload_n hx hb dX0_copyBox_96 rfl (lv_at hl 0 rfl) ?_
      refine lv_aload_n hx hb dX0_copyBox_97 rfl (lv_at hl 1 rfl) ?_
      refine zg_X0_60 C hw (zn4 hL gv (by omega)) dX0_copyBox_98 ?_
      refine zp_X0_60 C hw (zn4 hL gw (by omega)) dX0_copyBox_101 (fun H locs m16 em16 hw => ?_)
      exact zret_v C hr hlocks hw dX0_copyBox_104 (by rw [← show k = cn from (by omega)]; subst_vars; rfl)
    · skip
      have n17 := znle c15_2 (a := cn) (b := k) rfl rfl (by omega) (by omega)
      refine lv_aload_n hx hb dX0_copyBox_18 rfl (lv_at hl 0 rfl) ?_
      refine zg_X0_11 C hw (zn4 hL gw (by omega)) dX0_copyBox_19 ?_
      refine lv_iload_n hx hb dX0_copyBox_22 rfl (lv_at hl 2 rfl) ?_
      refine zald_5N C hw (zn5 hL gw (by omega)) k (by omega) rfl dX0_copyBox_23 ?_
      refine lv_aload_n hx hb dX0_copyBox_24 rfl (lv_at hl 1 rfl) ?_
      refine zg_X0_11 C hw (zn4 hL gv (by omega)) dX0_copyBox_25 ?_
      refine lv_iload_n hx hb dX0_copyBox_28 rfl (lv_at hl 2 rfl) ?_
      refine zald_5N C hw (zn5 hL gv (by omega)) k (by omega) rfl dX0_copyBox_29 ?_
      refine zafter_v C hw (zrunV (rest := []) C hml hl.1 hw (zn6 hL gw (by omega)) rfl rfl (c_X4_copyStamp l D cy ad m0 H.size hL gw (by omega) gv (by omega)) zv_X0_96 rfl rfl rfl ⟨Nat.le_of_ble_eq_true rfl, Nat.le_of_ble_eq_true rfl⟩ rfl (Nat.le_of_ble_eq_true rfl) dX0_copyBox_30 ⟨Nat.zero_le _, Nat.zero_le _⟩) (fun m19 H locs h18 hw => ?_)
      have em19 := h18
      refine lv_iinc (v := (nI (k + 1))) (lv' := [(2, .int (nI (k + 1))), (0, .ref (ad (4, w, b))), (1, .ref (ad (4, v, d)))]) hx hb dX0_copyBox_33 hl (k := 2) rfl (nI_1 k) (by decide) rfl (fun ls hl => ?_)
      refine lv_goto (tgt := 10) hx hb dX0_copyBox_36 (by decide) ?_
      exact ih10 _ (by omega) (k + 1) m19 _ _ _ rfl (by omega) (by rw [em19, i10_2]; rfl) hw (lv_sub hl [1, 2, 0] rfl)
  exact loop10 _ 0 m1 _ _ _ rfl (Nat.zero_le _) (by subst_vars; rfl) hw (lv_sub hl [1, 2, 0] rfl)
