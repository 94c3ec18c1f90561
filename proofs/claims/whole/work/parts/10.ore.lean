/-! THE PURE PICTURES of the small methods -/
def q_min (a b : Int32) : Int32 := if b < a then b else a
def q_max (a b : Int32) : Int32 := if a < b then b else a
def q_load1 (m : ZM) (n : ZN) : Int32 := m n 0 * m n 1 / 4
def q_force1 (m : ZM) (n : ZN) (t : Int32) : Int32 := m n 0 * m n 1 * t * (100 - m n 2) / 1000
def q_wearBy (m : ZM) (n : ZN) (t : Int32) : ZM := zs m n 2 (q_min 90 (m n 2 + t / 200))
def q_copyStamp (m : ZM) (n v : ZN) : ZM :=
  let m1 := zs m n 0 (m v 0)
  let m2 := zs m1 n 1 (m1 v 1)
  zs m2 n 2 (m2 v 2)
def q_whole (m : ZM) (n : ZN) : Int32 := m n 0 + m n 1
def q_partOf (t a b : Int32) : Int32 := if 1 ≤ b then (t.toInt64 * a.toInt64 / b.toInt64).toInt32 else 0
def q_gradeOf (a b : Int32) : Int32 := q_partOf b 1000 (a + b)
def q_tinOfHead (a b : Int32) : Int32 := a * (100 - b / 3) / 100
def q_rockOfHead (a b : Int32) : Int32 := a * ((100 - b) / 4) / 100
def q_put (m : ZM) (n : ZN) (a b : Int32) : ZM :=
  let m1 := zs m n 0 (m n 0 + a)
  zs m1 n 1 (m1 n 1 + b)
def q_become (m : ZM) (n : ZN) (a b : Int32) : ZM := zs (zs m n 0 a) n 1 b
def q_moveA (m : ZM) (n : ZN) (a : Int32) : Int32 := q_min a (q_whole m n)
def q_moveT (m : ZM) (n : ZN) (a : Int32) : Int32 := q_partOf (m n 1) (q_moveA m n a) (q_whole m n)
def q_moveR (m : ZM) (n : ZN) (a : Int32) : Int32 := if 1 ≤ q_moveA m n a then q_moveA m n a else 0
def q_move (m : ZM) (n v : ZN) (a : Int32) : ZM := if 1 ≤ q_moveA m n a then q_put (q_put m v (q_moveA m n a - q_moveT m n a) (q_moveT m n a)) n (q_moveT m n a - q_moveA m n a) (-q_moveT m n a) else m
def q_tellOre (m : ZM) (n : ZN) (k : Int32) : Int32 := if k = 0 then m n 0 else if k = 1 then m n 1 else q_gradeOf (m n 0) (m n 1)
theorem zdivL {b : Int32} (h : 1 ≤ b) : ¬ b.toInt64 = 0 := by
  intro q
  have h1 : b.toInt64.toInt = 0 := by rw [q]; rfl
  rw [Int32.toInt_toInt64] at h1
  have h2 := Int32.le_iff_toInt_le.mp h
  rw [h1] at h2
  exact absurd h2 (by decide)

set_option maxHeartbeats 4000000 in
set_option maxRecDepth 100000 in
theorem c_X4_loadOfStamp (l : Launch) (D : va_G) (cy : Nat → ClassId) (ad : ZN → Nat) (m : ZM) (sz : Nat) {L : List ZN} (hL : zL L) {w o : Nat} (gw : w < 2) (go : o < 16) : Met l yX4_loadOfStamp (zws yX4_loadOfStamp cX4_loadOfStamp 1 (some .int)) ({ frames := 0, cells := 0, slots := 0, locals := 0 } : Room) (zPc D cy ad L m sz [.ref (ad (6, w, o))]) (zQi (fun r m1 => r = q_load1 m (6, w, o) ∧ m1 = m) D cy ad L sz) 0 0 (zA ad L sz) := by
  refine zopen (Qc := fun sz => zQi (fun r m1 => r = q_load1 m (6, w, o) ∧ m1 = m) D cy ad L sz) RX4 (plainFor_of_name (by decide)) rfl (Nat.le_of_ble_eq_true rfl) ?_
  intro p e s mi below meth c ls C hr hlocks hml hl H locs hw
  obtain ⟨hx, hb, hts, hown, hK, hNw⟩ := id C
  have hl : lv_has ls 1 [(0, .ref (ad (6, w, o)))] := hl
  refine lv_aload_n hx hb dX4_loadOfStamp_0 rfl (lv_at hl 0 rfl) ?_
  refine zg_X4_9 C hw (zn6 hL gw (by omega)) dX4_loadOfStamp_1 ?_
  refine lv_aload_n hx hb dX4_loadOfStamp_4 rfl (lv_at hl 0 rfl) ?_
  refine zg_X4_15 C hw (zn6 hL gw (by omega)) dX4_loadOfStamp_5 ?_
  refine lv_imul hx hb dX4_loadOfStamp_8 ?_
  refine lv_iconst (v := 4) hx hb dX4_loadOfStamp_9 (by decide) ?_
  refine lv_idiv hx hb dX4_loadOfStamp_10 (by decide) ?_
  exact zret_i C hr hlocks hw dX4_loadOfStamp_11 ⟨(by first | rfl | (subst_vars; first | rfl)), (by first | rfl | (subst_vars; first | rfl))⟩

set_option maxHeartbeats 4000000 in
set_option maxRecDepth 100000 in
theorem c_X4_forceOfStamp (l : Launch) (D : va_G) (cy : Nat → ClassId) (ad : ZN → Nat) (m : ZM) (sz : Nat) {L : List ZN} (hL : zL L) {w o : Nat} (gw : w < 2) (go : o < 16) (t : Int32) : Met l yX4_forceOfStamp (zws yX4_forceOfStamp cX4_forceOfStamp 2 (some .int)) ({ frames := 0, cells := 0, slots := 0, locals := 0 } : Room) (zPc D cy ad L m sz [.ref (ad (6, w, o)), .int t]) (zQi (fun r m1 => r = q_force1 m (6, w, o) t ∧ m1 = m) D cy ad L sz) 0 0 (zA ad L sz) := by
  refine zopen (Qc := fun sz => zQi (fun r m1 => r = q_force1 m (6, w, o) t ∧ m1 = m) D cy ad L sz) RX4 (plainFor_of_name (by decide)) rfl (Nat.le_of_ble_eq_true rfl) ?_
  intro p e s mi below meth c ls C hr hlocks hml hl H locs hw
  obtain ⟨hx, hb, hts, hown, hK, hNw⟩ := id C
  have hl : lv_has ls 2 [(0, .ref (ad (6, w, o))), (1, .int t)] := hl
  refine lv_aload_n hx hb dX4_forceOfStamp_0 rfl (lv_at hl 0 rfl) ?_
  refine zg_X4_9 C hw (zn6 hL gw (by omega)) dX4_forceOfStamp_1 ?_
  refine lv_aload_n hx hb dX4_forceOfStamp_4 rfl (lv_at hl 0 rfl) ?_
  refine zg_X4_15 C hw (zn6 hL gw (by omega)) dX4_forceOfStamp_5 ?_
  refine lv_imul hx hb dX4_forceOfStamp_8 ?_
  refine lv_iload_n hx hb dX4_forceOfStamp_9 rfl (lv_at hl 1 rfl) ?_
  refine lv_imul hx hb dX4_forceOfStamp_10 ?_
  refine lv_bipush (v := 100) hx hb dX4_forceOfStamp_11 (by decide) ?_
  refine lv_aload_n hx hb dX4_forceOfStamp_13 rfl (lv_at hl 0 rfl) ?_
  refine zg_X4_18 C hw (zn6 hL gw (by omega)) dX4_forceOfStamp_14 ?_
  refine lv_isub hx hb dX4_forceOfStamp_17 ?_
  refine lv_imul hx hb dX4_forceOfStamp_18 ?_
  refine lv_sipush (v := 1000) hx hb dX4_forceOfStamp_19 (by decide) ?_
  refine lv_idiv hx hb dX4_forceOfStamp_22 (by decide) ?_
  exact zret_i C hr hlocks hw dX4_forceOfStamp_23 ⟨(by first | rfl | (subst_vars; first | rfl)), (by first | rfl | (subst_vars; first | rfl))⟩

set_option maxHeartbeats 4000000 in
set_option maxRecDepth 100000 in
theorem c_X4_wearBy (l : Launch) (D : va_G) (cy : Nat → ClassId) (ad : ZN → Nat) (m : ZM) (sz : Nat) {L : List ZN} (hL : zL L) {w o : Nat} (gw : w < 2) (go : o < 16) (t : Int32) : Met l yX4_wearBy (zws yX4_wearBy cX4_wearBy 2 none) ({ frames := 1, cells := 0, slots := 0, locals := 21 } : Room) (zPc D cy ad L m sz [.ref (ad (6, w, o)), .int t]) (zQv (fun m1 => m1 = q_wearBy m (6, w, o) t) D cy ad L sz) 0 0 (zA ad L sz) := by
  refine zopen (Qc := fun sz => zQv (fun m1 => m1 = q_wearBy m (6, w, o) t) D cy ad L sz) RX4 (plainFor_of_name (by decide)) rfl (Nat.le_of_ble_eq_true rfl) ?_
  intro p e s mi below meth c ls C hr hlocks hml hl H locs hw
  obtain ⟨hx, hb, hts, hown, hK, hNw⟩ := id C
  have hl : lv_has ls 2 [(0, .ref (ad (6, w, o))), (1, .int t)] := hl
  refine lv_aload_n hx hb dX4_wearBy_0 rfl (lv_at hl 0 rfl) ?_
  refine lv_bipush (v := 90) hx hb dX4_wearBy_1 (by decide) ?_
  refine lv_aload_n hx hb dX4_wearBy_3 rfl (lv_at hl 0 rfl) ?_
  refine zg_X4_18 C hw (zn6 hL gw (by omega)) dX4_wearBy_4 ?_
  refine lv_iload_n hx hb dX4_wearBy_7 rfl (lv_at hl 1 rfl) ?_
  refine lv_sipush (v := 200) hx hb dX4_wearBy_8 (by decide) ?_
  refine lv_idiv hx hb dX4_wearBy_11 (by decide) ?_
  refine lv_iadd hx hb dX4_wearBy_12 ?_
  refine va_mmin hx hb (hml.trans hl.1.symm) hown (hts _ zL_X4_21) (hts _ zT_min) (hts _ zN_Math) (hts _ zO_min) (Nat.le_of_ble_eq_true rfl) (Nat.le_of_ble_eq_true rfl) (Nat.zero_le _) (Nat.zero_le _) dX4_wearBy_13 ?_
  refine zp_X4_18 C hw (zn6 hL gw (by omega)) dX4_wearBy_16 (fun H locs m1 em1 hw => ?_)
  exact zret_v C hr hlocks hw dX4_wearBy_19 (by first | rfl | (subst_vars; first | rfl))

set_option maxHeartbeats 4000000 in
set_option maxRecDepth 100000 in
theorem c_X4_copyStamp (l : Launch) (D : va_G) (cy : Nat → ClassId) (ad : ZN → Nat) (m : ZM) (sz : Nat) {L : List ZN} (hL : zL L) {w o v u : Nat} (gw : w < 2) (go : o < 16) (gv : v < 2) (gu : u < 16) : Met l yX4_copyStamp (zws yX4_copyStamp cX4_copyStamp 2 none) ({ frames := 0, cells := 0, slots := 0, locals := 0 } : Room) (zPc D cy ad L m sz [.ref (ad (6, w, o)), .ref (ad (6, v, u))]) (zQv (fun m1 => m1 = q_copyStamp m (6, w, o) (6, v, u)) D cy ad L sz) 0 0 (zA ad L sz) := by
  refine zopen (Qc := fun sz => zQv (fun m1 => m1 = q_copyStamp m (6, w, o) (6, v, u)) D cy ad L sz) RX4 (plainFor_of_name (by decide)) rfl (Nat.le_of_ble_eq_true rfl) ?_
  intro p e s mi below meth c ls C hr hlocks hml hl H locs hw
  obtain ⟨hx, hb, hts, hown, hK, hNw⟩ := id C
  have hl : lv_has ls 2 [(0, .ref (ad (6, w, o))), (1, .ref (ad (6, v, u)))] := hl
  refine lv_aload_n hx hb dX4_copyStamp_0 rfl (lv_at hl 0 rfl) ?_
  refine lv_aload_n hx hb dX4_copyStamp_1 rfl (lv_at hl 1 rfl) ?_
  refine zg_X4_9 C hw (zn6 hL gv (by omega)) dX4_copyStamp_2 ?_
  refine zp_X4_9 C hw (zn6 hL gw (by omega)) dX4_copyStamp_5 (fun H locs m1 em1 hw => ?_)
  refine lv_aload_n hx hb dX4_copyStamp_8 rfl (lv_at hl 0 rfl) ?_
  refine lv_aload_n hx hb dX4_copyStamp_9 rfl (lv_at hl 1 rfl) ?_
  refine zg_X4_15 C hw (zn6 hL gv (by omega)) dX4_copyStamp_10 ?_
  refine zp_X4_15 C hw (zn6 hL gw (by omega)) dX4_copyStamp_13 (fun H locs m2 em2 hw => ?_)
  refine lv_aload_n hx hb dX4_copyStamp_16 rfl (lv_at hl 0 rfl) ?_
  refine lv_aload_n hx hb dX4_copyStamp_17 rfl (lv_at hl 1 rfl) ?_
  refine zg_X4_18 C hw (zn6 hL gv (by omega)) dX4_copyStamp_18 ?_
  refine zp_X4_18 C hw (zn6 hL gw (by omega)) dX4_copyStamp_21 (fun H locs m3 em3 hw => ?_)
  exact zret_v C hr hlocks hw dX4_copyStamp_24 (by first | rfl | (subst_vars; first | rfl))

set_option maxHeartbeats 4000000 in
set_option maxRecDepth 100000 in
theorem c_X3_whole (l : Launch) (D : va_G) (cy : Nat → ClassId) (ad : ZN → Nat) (m : ZM) (sz : Nat) {L : List ZN} (hL : zL L) {w o : Nat} (gw : w < 2) (go : o < 47) : Met l yX3_whole (zws yX3_whole cX3_whole 1 (some .int)) ({ frames := 0, cells := 0, slots := 0, locals := 0 } : Room) (zPc D cy ad L m sz [.ref (ad (7, w, o))]) (zQi (fun r m1 => r = q_whole m (7, w, o) ∧ m1 = m) D cy ad L sz) 0 0 (zA ad L sz) := by
  refine zopen (Qc := fun sz => zQi (fun r m1 => r = q_whole m (7, w, o) ∧ m1 = m) D cy ad L sz) RX3 (plainFor_of_name (by decide)) rfl (Nat.le_of_ble_eq_true rfl) ?_
  intro p e s mi below meth c ls C hr hlocks hml hl H locs hw
  obtain ⟨hx, hb, hts, hown, hK, hNw⟩ := id C
  have hl : lv_has ls 1 [(0, .ref (ad (7, w, o)))] := hl
  refine lv_aload_n hx hb dX3_whole_0 rfl (lv_at hl 0 rfl) ?_
  refine zg_X3_7 C hw (zn7 hL gw (by omega)) dX3_whole_1 ?_
  refine lv_aload_n hx hb dX3_whole_4 rfl (lv_at hl 0 rfl) ?_
  refine zg_X3_13 C hw (zn7 hL gw (by omega)) dX3_whole_5 ?_
  refine lv_iadd hx hb dX3_whole_8 ?_
  exact zret_i C hr hlocks hw dX3_whole_9 ⟨(by first | rfl | (subst_vars; first | rfl)), (by first | rfl | (subst_vars; first | rfl))⟩

set_option maxHeartbeats 4000000 in
set_option maxRecDepth 100000 in
theorem c_X6_partOf (l : Launch) (D : va_G) (cy : Nat → ClassId) (ad : ZN → Nat) (m : ZM) (sz : Nat) {L : List ZN} (t a b : Int32) : Met l yX6_partOf (zws yX6_partOf cX6_partOf 3 (some .int)) ({ frames := 0, cells := 0, slots := 0, locals := 0 } : Room) (zPc D cy ad L m sz [.int t, .int a, .int b]) (zQi (fun r m1 => r = q_partOf t a b ∧ m1 = m) D cy ad L sz) 0 0 (zA ad L sz) := by
  refine zopen (Qc := fun sz => zQi (fun r m1 => r = q_partOf t a b ∧ m1 = m) D cy ad L sz) RX6 (plainFor_of_name (by decide)) rfl (Nat.le_of_ble_eq_true rfl) ?_
  intro p e s mi below meth c ls C hr hlocks hml hl H locs hw
  obtain ⟨hx, hb, hts, hown, hK, hNw⟩ := id C
  have hl : lv_has ls 3 [(0, .int t), (1, .int a), (2, .int b)] := hl
  refine lv_iload_n hx hb dX6_partOf_0 rfl (lv_at hl 2 rfl) ?_
  refine lv_iconst (v := 1) hx hb dX6_partOf_1 (by decide) ?_
  refine lv_icmp_ge (tgt := 9) hx hb dX6_partOf_2 (by decide) (fun c2_1 => ?_) (fun c2_1 => ?_)
  · skip
    refine lv_iload_n hx hb dX6_partOf_9 rfl (lv_at hl 0 rfl) ?_
    refine lv_i2l hx hb dX6_partOf_10 rfl ?_
    refine lv_iload_n hx hb dX6_partOf_11 rfl (lv_at hl 1 rfl) ?_
    refine lv_i2l hx hb dX6_partOf_12 rfl ?_
    refine lv_lmul hx hb dX6_partOf_13 ?_
    refine lv_iload_n hx hb dX6_partOf_14 rfl (lv_at hl 2 rfl) ?_
    refine lv_i2l hx hb dX6_partOf_15 rfl ?_
    refine lv_ldiv hx hb dX6_partOf_16 (zdivL c2_1) ?_
    refine lv_l2i hx hb dX6_partOf_17 rfl ?_
    exact zret_i C hr hlocks hw dX6_partOf_18 ⟨(by first | rfl | exact (if_pos c2_1).symm | (subst_vars; first | rfl | exact (if_pos c2_1).symm)), (by first | rfl | exact (if_pos c2_1).symm | (subst_vars; first | rfl | exact (if_pos c2_1).symm))⟩
  · skip
    refine lv_iconst (v := 0) hx hb dX6_partOf_5 (by decide) ?_
    refine lv_goto (tgt := 18) hx hb dX6_partOf_6 (by decide) ?_
    exact zret_i C hr hlocks hw dX6_partOf_18 ⟨(by first | rfl | exact (if_neg c2_1).symm | (subst_vars; first | rfl | exact (if_neg c2_1).symm)), (by first | rfl | exact (if_neg c2_1).symm | (subst_vars; first | rfl | exact (if_neg c2_1).symm))⟩

set_option maxHeartbeats 4000000 in
set_option maxRecDepth 100000 in
theorem c_X6_gradeOf (l : Launch) (D : va_G) (cy : Nat → ClassId) (ad : ZN → Nat) (m : ZM) (sz : Nat) {L : List ZN} (a b : Int32) : Met l yX6_gradeOf (zws yX6_gradeOf cX6_gradeOf 2 (some .int)) ({ frames := 1, cells := 0, slots := 0, locals := 22 } : Room) (zPc D cy ad L m sz [.int a, .int b]) (zQi (fun r m1 => r = q_gradeOf a b ∧ m1 = m) D cy ad L sz) 0 0 (zA ad L sz) := by
  refine zopen (Qc := fun sz => zQi (fun r m1 => r = q_gradeOf a b ∧ m1 = m) D cy ad L sz) RX6 (plainFor_of_name (by decide)) rfl (Nat.le_of_ble_eq_true rfl) ?_
  intro p e s mi below meth c ls C hr hlocks hml hl H locs hw
  obtain ⟨hx, hb, hts, hown, hK, hNw⟩ := id C
  have hl : lv_has ls 2 [(0, .int a), (1, .int b)] := hl
  refine lv_iload_n hx hb dX6_gradeOf_0 rfl (lv_at hl 1 rfl) ?_
  refine lv_sipush (v := 1000) hx hb dX6_gradeOf_1 (by decide) ?_
  refine lv_iload_n hx hb dX6_gradeOf_4 rfl (lv_at hl 0 rfl) ?_
  refine lv_iload_n hx hb dX6_gradeOf_5 rfl (lv_at hl 1 rfl) ?_
  refine lv_iadd hx hb dX6_gradeOf_6 ?_
  refine zafter_i C hw (zrunS (rest := []) C hml hl.1 hw (c_X6_partOf l D cy ad m H.size b 1000 (a + b)) zv_X6_269 rfl rfl rfl ⟨Nat.le_of_ble_eq_true rfl, Nat.le_of_ble_eq_true rfl⟩ rfl (Nat.le_of_ble_eq_true rfl) dX6_gradeOf_7 ⟨Nat.zero_le _, Nat.zero_le _⟩) (fun r3 m2 H locs h1 hw => ?_)
  obtain ⟨er3, h1⟩ := h1
  rw [h1] at hw
  clear h1 m2
  exact zret_i C hr hlocks hw dX6_gradeOf_10 ⟨(by first | rfl | (subst_vars; first | rfl)), (by first | rfl | (subst_vars; first | rfl))⟩

set_option maxHeartbeats 4000000 in
set_option maxRecDepth 100000 in
theorem c_X6_tinOfHead (l : Launch) (D : va_G) (cy : Nat → ClassId) (ad : ZN → Nat) (m : ZM) (sz : Nat) {L : List ZN} (a b : Int32) : Met l yX6_tinOfHead (zws yX6_tinOfHead cX6_tinOfHead 2 (some .int)) ({ frames := 0, cells := 0, slots := 0, locals := 0 } : Room) (zPc D cy ad L m sz [.int a, .int b]) (zQi (fun r m1 => r = q_tinOfHead a b ∧ m1 = m) D cy ad L sz) 0 0 (zA ad L sz) := by
  refine zopen (Qc := fun sz => zQi (fun r m1 => r = q_tinOfHead a b ∧ m1 = m) D cy ad L sz) RX6 (plainFor_of_name (by decide)) rfl (Nat.le_of_ble_eq_true rfl) ?_
  intro p e s mi below meth c ls C hr hlocks hml hl H locs hw
  obtain ⟨hx, hb, hts, hown, hK, hNw⟩ := id C
  have hl : lv_has ls 2 [(0, .int a), (1, .int b)] := hl
  refine lv_iload_n hx hb dX6_tinOfHead_0 rfl (lv_at hl 0 rfl) ?_
  refine lv_bipush (v := 100) hx hb dX6_tinOfHead_1 (by decide) ?_
  refine lv_iload_n hx hb dX6_tinOfHead_3 rfl (lv_at hl 1 rfl) ?_
  refine lv_iconst (v := 3) hx hb dX6_tinOfHead_4 (by decide) ?_
  refine lv_idiv hx hb dX6_tinOfHead_5 (by decide) ?_
  refine lv_isub hx hb dX6_tinOfHead_6 ?_
  refine lv_imul hx hb dX6_tinOfHead_7 ?_
  refine lv_bipush (v := 100) hx hb dX6_tinOfHead_8 (by decide) ?_
  refine lv_idiv hx hb dX6_tinOfHead_10 (by decide) ?_
  exact zret_i C hr hlocks hw dX6_tinOfHead_11 ⟨(by first | rfl | (subst_vars; first | rfl)), (by first | rfl | (subst_vars; first | rfl))⟩

set_option maxHeartbeats 4000000 in
set_option maxRecDepth 100000 in
theorem c_X6_rockOfHead (l : Launch) (D : va_G) (cy : Nat → ClassId) (ad : ZN → Nat) (m : ZM) (sz : Nat) {L : List ZN} (a b : Int32) : Met l yX6_rockOfHead (zws yX6_rockOfHead cX6_rockOfHead 2 (some .int)) ({ frames := 0, cells := 0, slots := 0, locals := 0 } : Room) (zPc D cy ad L m sz [.int a, .int b]) (zQi (fun r m1 => r = q_rockOfHead a b ∧ m1 = m) D cy ad L sz) 0 0 (zA ad L sz) := by
  refine zopen (Qc := fun sz => zQi (fun r m1 => r = q_rockOfHead a b ∧ m1 = m) D cy ad L sz) RX6 (plainFor_of_name (by decide)) rfl (Nat.le_of_ble_eq_true rfl) ?_
  intro p e s mi below meth c ls C hr hlocks hml hl H locs hw
  obtain ⟨hx, hb, hts, hown, hK, hNw⟩ := id C
  have hl : lv_has ls 2 [(0, .int a), (1, .int b)] := hl
  refine lv_iload_n hx hb dX6_rockOfHead_0 rfl (lv_at hl 0 rfl) ?_
  refine lv_bipush (v := 100) hx hb dX6_rockOfHead_1 (by decide) ?_
  refine lv_iload_n hx hb dX6_rockOfHead_3 rfl (lv_at hl 1 rfl) ?_
  refine lv_isub hx hb dX6_rockOfHead_4 ?_
  refine lv_iconst (v := 4) hx hb dX6_rockOfHead_5 (by decide) ?_
  refine lv_idiv hx hb dX6_rockOfHead_6 (by decide) ?_
  refine lv_imul hx hb dX6_rockOfHead_7 ?_
  refine lv_bipush (v := 100) hx hb dX6_rockOfHead_8 (by decide) ?_
  refine lv_idiv hx hb dX6_rockOfHead_10 (by decide) ?_
  exact zret_i C hr hlocks hw dX6_rockOfHead_11 ⟨(by first | rfl | (subst_vars; first | rfl)), (by first | rfl | (subst_vars; first | rfl))⟩

set_option maxHeartbeats 4000000 in
set_option maxRecDepth 100000 in
theorem c_X3_put (l : Launch) (D : va_G) (cy : Nat → ClassId) (ad : ZN → Nat) (m : ZM) (sz : Nat) {L : List ZN} (hL : zL L) {w o : Nat} (gw : w < 2) (go : o < 47) (a b : Int32) : Met l yX3_put (zws yX3_put cX3_put 3 none) ({ frames := 0, cells := 0, slots := 0, locals := 0 } : Room) (zPc D cy ad L m sz [.ref (ad (7, w, o)), .int a, .int b]) (zQv (fun m1 => m1 = q_put m (7, w, o) a b) D cy ad L sz) 0 0 (zA ad L sz) := by
  refine zopen (Qc := fun sz => zQv (fun m1 => m1 = q_put m (7, w, o) a b) D cy ad L sz) RX3 (plainFor_of_name (by decide)) rfl (Nat.le_of_ble_eq_true rfl) ?_
  intro p e s mi below meth c ls C hr hlocks hml hl H locs hw
  obtain ⟨hx, hb, hts, hown, hK, hNw⟩ := id C
  have hl : lv_has ls 3 [(0, .ref (ad (7, w, o))), (1, .int a), (2, .int b)] := hl
  refine lv_aload_n hx hb dX3_put_0 rfl (lv_at hl 0 rfl) ?_
  refine lv_dup hx hb dX3_put_1 rfl ?_
  refine zg_X3_7 C hw (zn7 hL gw (by omega)) dX3_put_2 ?_
  refine lv_iload_n hx hb dX3_put_5 rfl (lv_at hl 1 rfl) ?_
  refine lv_iadd hx hb dX3_put_6 ?_
  refine zp_X3_7 C hw (zn7 hL gw (by omega)) dX3_put_7 (fun H locs m1 em1 hw => ?_)
  refine lv_aload_n hx hb dX3_put_10 rfl (lv_at hl 0 rfl) ?_
  refine lv_dup hx hb dX3_put_11 rfl ?_
  refine zg_X3_13 C hw (zn7 hL gw (by omega)) dX3_put_12 ?_
  refine lv_iload_n hx hb dX3_put_15 rfl (lv_at hl 2 rfl) ?_
  refine lv_iadd hx hb dX3_put_16 ?_
  refine zp_X3_13 C hw (zn7 hL gw (by omega)) dX3_put_17 (fun H locs m2 em2 hw => ?_)
  exact zret_v C hr hlocks hw dX3_put_20 (by first | rfl | (subst_vars; first | rfl))

set_option maxHeartbeats 4000000 in
set_option maxRecDepth 100000 in
theorem c_X3_become (l : Launch) (D : va_G) (cy : Nat → ClassId) (ad : ZN → Nat) (m : ZM) (sz : Nat) {L : List ZN} (hL : zL L) {w o : Nat} (gw : w < 2) (go : o < 47) (a b : Int32) : Met l yX3_become (zws yX3_become cX3_become 3 none) ({ frames := 0, cells := 0, slots := 0, locals := 0 } : Room) (zPc D cy ad L m sz [.ref (ad (7, w, o)), .int a, .int b]) (zQv (fun m1 => m1 = q_become m (7, w, o) a b) D cy ad L sz) 0 0 (zA ad L sz) := by
  refine zopen (Qc := fun sz => zQv (fun m1 => m1 = q_become m (7, w, o) a b) D cy ad L sz) RX3 (plainFor_of_name (by decide)) rfl (Nat.le_of_ble_eq_true rfl) ?_
  intro p e s mi below meth c ls C hr hlocks hml hl H locs hw
  obtain ⟨hx, hb, hts, hown, hK, hNw⟩ := id C
  have hl : lv_has ls 3 [(0, .ref (ad (7, w, o))), (1, .int a), (2, .int b)] := hl
  refine lv_aload_n hx hb dX3_become_0 rfl (lv_at hl 0 rfl) ?_
  refine lv_iload_n hx hb dX3_become_1 rfl (lv_at hl 1 rfl) ?_
  refine zp_X3_7 C hw (zn7 hL gw (by omega)) dX3_become_2 (fun H locs m1 em1 hw => ?_)
  refine lv_aload_n hx hb dX3_become_5 rfl (lv_at hl 0 rfl) ?_
  refine lv_iload_n hx hb dX3_become_6 rfl (lv_at hl 2 rfl) ?_
  refine zp_X3_13 C hw (zn7 hL gw (by omega)) dX3_become_7 (fun H locs m2 em2 hw => ?_)
  exact zret_v C hr hlocks hw dX3_become_10 (by first | rfl | (subst_vars; first | rfl))

set_option maxHeartbeats 4000000 in
set_option maxRecDepth 100000 in
theorem c_X3_copyOre (l : Launch) (D : va_G) (cy : Nat → ClassId) (ad : ZN → Nat) (m : ZM) (sz : Nat) {L : List ZN} (hL : zL L) {w o v u : Nat} (gw : w < 2) (go : o < 47) (gv : v < 2) (gu : u < 47) : Met l yX3_copyOre (zws yX3_copyOre cX3_copyOre 2 none) ({ frames := 1, cells := 0, slots := 0, locals := 22 } : Room) (zPc D cy ad L m sz [.ref (ad (7, w, o)), .ref (ad (7, v, u))]) (zQv (fun m1 => m1 = q_become m (7, w, o) (m (7, v, u) 0) (m (7, v, u) 1)) D cy ad L sz) 0 0 (zA ad L sz) := by
  refine zopen (Qc := fun sz => zQv (fun m1 => m1 = q_become m (7, w, o) (m (7, v, u) 0) (m (7, v, u) 1)) D cy ad L sz) RX3 (plainFor_of_name (by decide)) rfl (Nat.le_of_ble_eq_true rfl) ?_
  intro p e s mi below meth c ls C hr hlocks hml hl H locs hw
  obtain ⟨hx, hb, hts, hown, hK, hNw⟩ := id C
  have hl : lv_has ls 2 [(0, .ref (ad (7, w, o))), (1, .ref (ad (7, v, u)))] := hl
  refine lv_aload_n hx hb dX3_copyOre_0 rfl (lv_at hl 0 rfl) ?_
  refine lv_aload_n hx hb dX3_copyOre_1 rfl (lv_at hl 1 rfl) ?_
  refine zg_X3_7 C hw (zn7 hL gv (by omega)) dX3_copyOre_2 ?_
  refine lv_aload_n hx hb dX3_copyOre_5 rfl (lv_at hl 1 rfl) ?_
  refine zg_X3_13 C hw (zn7 hL gv (by omega)) dX3_copyOre_6 ?_
  refine zafter_v C hw (zrunV (rest := []) C hml hl.1 hw (zn7 hL gw (by omega)) rfl rfl (c_X3_become l D cy ad m H.size hL gw go (m (7, v, u) 0) (m (7, v, u) 1)) zv_X3_22 rfl rfl rfl ⟨Nat.le_of_ble_eq_true rfl, Nat.le_of_ble_eq_true rfl⟩ rfl (Nat.le_of_ble_eq_true rfl) dX3_copyOre_9 ⟨Nat.zero_le _, Nat.zero_le _⟩) (fun m2 H locs h1 hw => ?_)
  have em2 := h1
  exact zret_v C hr hlocks hw dX3_copyOre_12 (by first | rfl | (subst_vars; first | rfl))

set_option maxHeartbeats 4000000 in
set_option maxRecDepth 100000 in
theorem c_X3_moveTo (l : Launch) (D : va_G) (cy : Nat → ClassId) (ad : ZN → Nat) (m : ZM) (sz : Nat) {L : List ZN} (hL : zL L) {w o v u : Nat} (gw : w < 2) (go : o < 47) (gv : v < 2) (gu : u < 47) (a : Int32) : Met l yX3_moveTo (zws yX3_moveTo cX3_moveTo 5 (some .int)) ({ frames := 1, cells := 0, slots := 0, locals := 22 } : Room) (zPc D cy ad L m sz [.ref (ad (7, w, o)), .ref (ad (7, v, u)), .int a]) (zQi (fun r m1 => r = q_moveR m (7, w, o) a ∧ m1 = q_move m (7, w, o) (7, v, u) a) D cy ad L sz) 0 0 (zA ad L sz) := by
  refine zopen (Qc := fun sz => zQi (fun r m1 => r = q_moveR m (7, w, o) a ∧ m1 = q_move m (7, w, o) (7, v, u) a) D cy ad L sz) RX3 (plainFor_of_name (by decide)) rfl (Nat.le_of_ble_eq_true rfl) ?_
  intro p e s mi below meth c ls C hr hlocks hml hl H locs hw
  obtain ⟨hx, hb, hts, hown, hK, hNw⟩ := id C
  have hl : lv_has ls 5 [(0, .ref (ad (7, w, o))), (1, .ref (ad (7, v, u))), (2, .int a)] := hl
  refine lv_iload_n hx hb dX3_moveTo_0 rfl (lv_at hl 2 rfl) ?_
  refine lv_aload_n hx hb dX3_moveTo_1 rfl (lv_at hl 0 rfl) ?_
  refine zafter_i C hw (zrunV (rest := [.int a]) C hml hl.1 hw (zn7 hL gw (by omega)) rfl rfl (c_X3_whole l D cy ad m H.size hL gw go) zv_X3_26 rfl rfl rfl ⟨Nat.le_of_ble_eq_true rfl, Nat.le_of_ble_eq_true rfl⟩ rfl (Nat.le_of_ble_eq_true rfl) dX3_moveTo_2 ⟨Nat.zero_le _, Nat.zero_le _⟩) (fun r3 m2 H locs h1 hw => ?_)
  obtain ⟨er3, h1⟩ := h1
  rw [h1] at hw
  clear h1 m2
  refine va_mmin hx hb (hml.trans hl.1.symm) hown (hts _ zL_X3_30) (hts _ zT_min) (hts _ zN_Math) (hts _ zO_min) (Nat.le_of_ble_eq_true rfl) (Nat.le_of_ble_eq_true rfl) (Nat.zero_le _) (Nat.zero_le _) dX3_moveTo_5 ?_
  refine lv_topi (fun x4 ex4 => ?_)
  refine lv_istore_n (lv' := [(3, .int x4), (0, .ref (ad (7, w, o))), (1, .ref (ad (7, v, u))), (2, .int a)]) hx hb dX3_moveTo_8 rfl hl (by decide) rfl (fun ls hl => ?_)
  refine lv_iload_n hx hb dX3_moveTo_9 rfl (lv_at hl 0 rfl) ?_
  refine lv_iconst (v := 1) hx hb dX3_moveTo_10 (by decide) ?_
  refine lv_icmp_ge (tgt := 16) hx hb dX3_moveTo_11 (by decide) (fun c11_5 => ?_) (fun c11_5 => ?_)
  · skip
    refine lv_aload_n hx hb dX3_moveTo_16 rfl (lv_at hl 1 rfl) ?_
    refine zg_X3_13 C hw (zn7 hL gw (by omega)) dX3_moveTo_17 ?_
    refine lv_iload_n hx hb dX3_moveTo_20 rfl (lv_at hl 0 rfl) ?_
    refine lv_aload_n hx hb dX3_moveTo_21 rfl (lv_at hl 1 rfl) ?_
    refine zafter_i C hw (zrunV (rest := [.int x4, .int (m (7, w, o) 1)]) C hml hl.1 hw (zn7 hL gw (by omega)) rfl rfl (c_X3_whole l D cy ad m H.size hL gw go) zv_X3_26 rfl rfl rfl ⟨Nat.le_of_ble_eq_true rfl, Nat.le_of_ble_eq_true rfl⟩ rfl (Nat.le_of_ble_eq_true rfl) dX3_moveTo_22 ⟨Nat.zero_le _, Nat.zero_le _⟩) (fun r8 m7 H locs h6 hw => ?_)
    obtain ⟨er8, h6⟩ := h6
    rw [h6] at hw
    clear h6 m7
    refine zafter_i C hw (zrunSN (rest := []) C hml hl.1 hw (c_X6_partOf l D cy ad m H.size ((m (7, w, o) 1)) (x4) (r8)) zv_X3_35 rfl rfl rfl ⟨Nat.le_of_ble_eq_true rfl, Nat.le_of_ble_eq_true rfl⟩ rfl (Nat.le_of_ble_eq_true rfl) dX3_moveTo_25 ⟨Nat.zero_le _, Nat.zero_le _⟩) (fun r11 m10 H locs h9 hw => ?_)
    obtain ⟨er11, h9⟩ := h9
    rw [h9] at hw
    clear h9 m10
    refine lv_istore (lv' := [(4, .int r11), (3, .int x4), (0, .ref (ad (7, w, o))), (1, .ref (ad (7, v, u))), (2, .int a)]) hx hb dX3_moveTo_28 hl (by decide) rfl (fun ls hl => ?_)
    refine lv_aload_n hx hb dX3_moveTo_30 rfl (lv_at hl 3 rfl) ?_
    refine lv_iload_n hx hb dX3_moveTo_31 rfl (lv_at hl 1 rfl) ?_
    refine lv_iload hx hb dX3_moveTo_32 (lv_at hl 0 rfl) ?_
    refine lv_isub hx hb dX3_moveTo_34 ?_
    refine lv_iload hx hb dX3_moveTo_35 (lv_at hl 0 rfl) ?_
    refine zafter_v C hw (zrunV (rest := []) C hml hl.1 hw (zn7 hL gv (by omega)) rfl rfl (c_X3_put l D cy ad m H.size hL gv gu ((x4 - r11)) (r11)) zv_X3_39 rfl rfl rfl ⟨Nat.le_of_ble_eq_true rfl, Nat.le_of_ble_eq_true rfl⟩ rfl (Nat.le_of_ble_eq_true rfl) dX3_moveTo_37 ⟨Nat.zero_le _, Nat.zero_le _⟩) (fun m13 H locs h12 hw => ?_)
    have em13 := h12
    refine lv_aload_n hx hb dX3_moveTo_40 rfl (lv_at hl 2 rfl) ?_
    refine lv_iload hx hb dX3_moveTo_41 (lv_at hl 0 rfl) ?_
    refine lv_iload_n hx hb dX3_moveTo_43 rfl (lv_at hl 1 rfl) ?_
    refine lv_isub hx hb dX3_moveTo_44 ?_
    refine lv_iload hx hb dX3_moveTo_45 (lv_at hl 0 rfl) ?_
    refine lv_ineg hx hb dX3_moveTo_47 ?_
    refine zafter_v C hw (zrunV (rest := []) C hml hl.1 hw (zn7 hL gw (by omega)) rfl rfl (c_X3_put l D cy ad m13 H.size hL gw go ((r11 - x4)) ((-r11))) zv_X3_39 rfl rfl rfl ⟨Nat.le_of_ble_eq_true rfl, Nat.le_of_ble_eq_true rfl⟩ rfl (Nat.le_of_ble_eq_true rfl) dX3_moveTo_48 ⟨Nat.zero_le _, Nat.zero_le _⟩) (fun m16 H locs h15 hw => ?_)
    have em16 := h15
    refine lv_iload_n hx hb dX3_moveTo_51 rfl (lv_at hl 1 rfl) ?_
    exact zret_i C hr hlocks hw dX3_moveTo_52 ⟨(by first | rfl | exact (if_pos c11_5).symm | (subst_vars; first | rfl | exact (if_pos c11_5).symm)), (by first | rfl | exact (if_pos c11_5).symm | (subst_vars; first | rfl | exact (if_pos c11_5).symm))⟩
  · skip
    refine lv_iconst (v := 0) hx hb dX3_moveTo_14 (by decide) ?_
    exact zret_i C hr hlocks hw dX3_moveTo_15 ⟨(by first | rfl | exact (if_neg c11_5).symm | (subst_vars; first | rfl | exact (if_neg c11_5).symm)), (by first | rfl | exact (if_neg c11_5).symm | (subst_vars; first | rfl | exact (if_neg c11_5).symm))⟩

set_option maxHeartbeats 4000000 in
set_option maxRecDepth 100000 in
theorem c_X3_tellOfOre (l : Launch) (D : va_G) (cy : Nat → ClassId) (ad : ZN → Nat) (m : ZM) (sz : Nat) {L : List ZN} (hL : zL L) {w o : Nat} (gw : w < 2) (go : o < 47) (k : Int32) : Met l yX3_tellOfOre (zws yX3_tellOfOre cX3_tellOfOre 2 (some .int)) ({ frames := 2, cells := 0, slots := 0, locals := 43 } : Room) (zPc D cy ad L m sz [.ref (ad (7, w, o)), .int k]) (zQi (fun r m1 => r = q_tellOre m (7, w, o) k ∧ m1 = m) D cy ad L sz) 0 0 (zA ad L sz) := by
  refine zopen (Qc := fun sz => zQi (fun r m1 => r = q_tellOre m (7, w, o) k ∧ m1 = m) D cy ad L sz) RX3 (plainFor_of_name (by decide)) rfl (Nat.le_of_ble_eq_true rfl) ?_
  intro p e s mi below meth c ls C hr hlocks hml hl H locs hw
  obtain ⟨hx, hb, hts, hown, hK, hNw⟩ := id C
  have hl : lv_has ls 2 [(0, .ref (ad (7, w, o))), (1, .int k)] := hl
  refine lv_iload_n hx hb dX3_tellOfOre_0 rfl (lv_at hl 1 rfl) ?_
  by_cases q1 : k = 0
  · skip
    refine lv_lookup (off := 27) (tgt := 28) hx hb dX3_tellOfOre_1 (by decide) (by rw [q1]; decide) (by decide) ?_
    refine lv_aload_n hx hb dX3_tellOfOre_28 rfl (lv_at hl 0 rfl) ?_
    refine zg_X3_7 C hw (zn7 hL gw (by omega)) dX3_tellOfOre_29 ?_
    exact zret_i C hr hlocks hw dX3_tellOfOre_32 ⟨(by first | rfl | exact (if_pos q1).symm | (subst_vars; first | rfl | exact (if_pos q1).symm)), (by first | rfl | exact (if_pos q1).symm | (subst_vars; first | rfl | exact (if_pos q1).symm))⟩
  by_cases q2 : k = 1
  · skip
    refine lv_lookup (off := 32) (tgt := 33) hx hb dX3_tellOfOre_1 (by decide) (by rw [q2]; decide) (by decide) ?_
    refine lv_aload_n hx hb dX3_tellOfOre_33 rfl (lv_at hl 0 rfl) ?_
    refine zg_X3_13 C hw (zn7 hL gw (by omega)) dX3_tellOfOre_34 ?_
    exact zret_i C hr hlocks hw dX3_tellOfOre_37 ⟨(by first | rfl | exact ((if_neg q1).trans (if_pos q2)).symm | exact (if_pos q2).symm | (subst_vars; first | rfl | exact ((if_neg q1).trans (if_pos q2)).symm | exact (if_pos q2).symm)), (by first | rfl | exact ((if_neg q1).trans (if_pos q2)).symm | exact (if_pos q2).symm | (subst_vars; first | rfl | exact ((if_neg q1).trans (if_pos q2)).symm | exact (if_pos q2).symm))⟩
  refine lv_lookup (off := 37) (tgt := 38) hx hb dX3_tellOfOre_1 (by decide) ((lv_osw q1 (by decide)).trans ((lv_osw q2 (by decide)).trans rfl)) (by decide) ?_
  refine lv_aload_n hx hb dX3_tellOfOre_38 rfl (lv_at hl 0 rfl) ?_
  refine zg_X3_7 C hw (zn7 hL gw (by omega)) dX3_tellOfOre_39 ?_
  refine lv_aload_n hx hb dX3_tellOfOre_42 rfl (lv_at hl 0 rfl) ?_
  refine zg_X3_13 C hw (zn7 hL gw (by omega)) dX3_tellOfOre_43 ?_
  refine zafter_i C hw (zrunSN (rest := []) C hml hl.1 hw (c_X6_gradeOf l D cy ad m H.size (m (7, w, o) 0) (m (7, w, o) 1)) zv_X3_16 rfl rfl rfl ⟨Nat.le_of_ble_eq_true rfl, Nat.le_of_ble_eq_true rfl⟩ rfl (Nat.le_of_ble_eq_true rfl) dX3_tellOfOre_46 ⟨Nat.zero_le _, Nat.zero_le _⟩) (fun r5 m4 H locs h3 hw => ?_)
  obtain ⟨er5, h3⟩ := h3
  rw [h3] at hw
  clear h3 m4
  exact zret_i C hr hlocks hw dX3_tellOfOre_49 ⟨(by first | rfl | exact ((if_neg q1).trans (if_neg q2)).symm | exact (if_neg q2).symm | (subst_vars; first | rfl | exact ((if_neg q1).trans (if_neg q2)).symm | exact (if_neg q2).symm)), (by first | rfl | exact ((if_neg q1).trans (if_neg q2)).symm | exact (if_neg q2).symm | (subst_vars; first | rfl | exact ((if_neg q1).trans (if_neg q2)).symm | exact (if_neg q2).symm))⟩
