/-! the class's calls: 0 and an answer, or what was thrown -/
def q6_bn (b : Int32) (bc : Nat) : Nat := if b < 0 then 1 else if b < nI bc then 0 else 1
def q6_ud (b : Int32) : Nat := if b < 0 then 1 else if b < 3 then 0 else 1
def q6_fh (hn : Nat) : Nat := if nI hn < 30 then 0 else 3
def q6_rh (h x : Int32) : Nat := if h < 1 then 2 else if h ≤ x then 0 else 2
def q6_lh (m : ZM) (h : Int32) : Nat := if h ≤ 5000 - m (1, 0, 0) 6 then 0 else 3
theorem q6_bn_ok {b : Int32} {bc : Nat} (hb : bc < 2 ^ 31) (h : q6_bn b bc = 0) : b = nI b.toNatClampNeg ∧ b.toNatClampNeg < bc := by
  unfold q6_bn at h
  by_cases c1 : b < 0
  · rw [if_pos c1] at h; cases h
  by_cases c2 : b < nI bc
  · exact zx_nat hb c1 c2
  · rw [if_neg c1, if_neg c2] at h; cases h
theorem q6_ud_ok {b : Int32} (h : q6_ud b = 0) : b = nI b.toNatClampNeg ∧ b.toNatClampNeg < 3 := by
  unfold q6_ud at h
  by_cases c1 : b < 0
  · rw [if_pos c1] at h; cases h
  by_cases c2 : b < 3
  · exact zx_nat (n := 3) (by decide) c1 c2
  · rw [if_neg c1, if_neg c2] at h; cases h
theorem q6_rh_ok {h : Int32} {n : Nat} (hn : n < 2 ^ 31) (q : q6_rh h (nI n) = 0) : h = nI h.toNatClampNeg ∧ 1 ≤ h.toNatClampNeg ∧ h.toNatClampNeg ≤ n := by
  unfold q6_rh at q
  by_cases c1 : h < 1
  · rw [if_pos c1] at q; cases q
  by_cases c2 : h ≤ nI n
  · exact zx_natl (a := 1) (by decide) hn c1 c2
  · rw [if_neg c1, if_neg c2] at q; cases q
abbrev Z3 : Type := Nat × Int32 × ZM
def q6_setInflow (m : ZM) (h x : Int32) : Z3 :=
  if h < 0 then (1, 0, m) else if h < 24 then (if x < 0 then (2, 0, m) else if x ≤ 900 then (0, m (2, 0, 24) h.toNatClampNeg, zs m (2, 0, 24) h.toNatClampNeg x) else (2, 0, m)) else (1, 0, m)
def q6_setSluice (m : ZM) (x : Int32) : Z3 := if x < 0 then (2, 0, m) else if x ≤ 20 then (0, m (1, 0, 0) 8, zs m (1, 0, 0) 8 x) else (2, 0, m)
def q6_addBox (m : ZM) (bc : Nat) : Z3 := if nI bc < 4 then (0, zs m (1, 0, 0) 9 (nI bc + 1) (1, 0, 0) 9 - 1, zs m (1, 0, 0) 9 (nI bc + 1)) else (3, 0, m)
def q6_hang (m : ZM) (bc : Nat) (sc : Nat → Nat) (b x y : Int32) : Z3 :=
  if q6_bn b bc = 0 then (if x < 10 then (2, 0, m) else if x ≤ 60 then (if y < 1 then (2, 0, m) else if y ≤ 4 then (if nI (sc b.toNatClampNeg) < 4 then (0, q_addStamp m 0 b.toNatClampNeg (sc b.toNatClampNeg) x y (4, 0, b.toNatClampNeg) 4, q_addStamp m 0 b.toNatClampNeg (sc b.toNatClampNeg) x y) else (3, 0, m)) else (2, 0, m)) else (2, 0, m)) else (q6_bn b bc, 0, m)
def q6_shoe (m : ZM) (bc : Nat) (sc : Nat → Nat) (b k : Int32) : Z3 :=
  if q6_bn b bc = 0 then (if k < 0 then (1, 0, m) else if k < nI (sc b.toNatClampNeg) then (0, m (6, 0, 4 * b.toNatClampNeg + k.toNatClampNeg) 2, zs m (6, 0, 4 * b.toNatClampNeg + k.toNatClampNeg) 2 0) else (1, 0, m)) else (q6_bn b bc, 0, m)
def q6_setBox (m : ZM) (bc : Nat) (b x y : Int32) : Z3 :=
  if q6_bn b bc = 0 then (if x < 0 then (2, 0, m) else if x ≤ 300 then (if y < 0 then (2, 0, m) else if y < 3 then (0, m (4, 0, b.toNatClampNeg) 5, zs (zs m (4, 0, b.toNatClampNeg) 5 x) (4, 0, b.toNatClampNeg) 6 y) else (2, 0, m)) else (2, 0, m)) else (q6_bn b bc, 0, m)
def q6_box (m : ZM) (bc : Nat) (sc : Nat → Nat) (b k : Int32) : Z3 :=
  if q6_bn b bc = 0 then (if k < 0 then (1, 0, m) else if k < 12 then (0, q_tellBox m 0 b.toNatClampNeg (sc b.toNatClampNeg) k, m) else (1, 0, m)) else (q6_bn b bc, 0, m)
def q6_bringM (m : ZM) (fq hn : Nat) (x y z : Int32) : ZM := q_addLot m 0 ((fq + hn) % 30) (x - x * y / 1000) (x * y / 1000) z
def q6_bring (m : ZM) (fq hn : Nat) (x y z : Int32) : Z3 :=
  if x < 1 then (2, 0, m) else if x ≤ 5000 then (if y < 0 then (2, 0, m) else if y ≤ 1000 then (if z < 1 then (2, 0, m) else if z ≤ 9 then (if q6_fh hn = 0 then (0, q6_bringM m fq hn x y z (8, 0, 0) 2, q6_bringM m fq hn x y z) else (q6_fh hn, 0, m)) else (2, 0, m)) else (2, 0, m)) else (2, 0, m)
def q6_lot (m : ZM) (fq hn : Nat) (i k : Int32) : Z3 :=
  if i < 0 then (1, 0, m) else if i < nI hn then (if k < 0 then (1, 0, m) else if k < 3 then (0, q_tellLot m 0 ((fq + i.toNatClampNeg) % 30) k, m) else (1, 0, m)) else (1, 0, m)
def q6_run (m : ZM) (bc : Nat) (sc bu : Nat → Nat) (hq : Nat) (h : Int32) : Z3 :=
  if q6_rh h 100 = 0 then (if q6_lh m h = 0 then (0, q_passT m 0 bc sc bu hq h.toNatClampNeg, q_passM m 0 bc sc bu hq h.toNatClampNeg) else (q6_lh m h, 0, m)) else (q6_rh h 100, 0, m)
def q6_count (m : ZM) (bc : Nat) (sc : Nat → Nat) (fq hn : Nat) (k : Int32) : Z3 := if k < 0 then (1, 0, m) else if k < 14 then (0, q_tellWorks m 0 bc sc fq hn k, m) else (1, 0, m)
def q6_buddle (m : ZM) (b k : Int32) : Z3 := if q6_ud b = 0 then (if k < 0 then (1, 0, m) else if k < 3 then (0, q_tellOre m (7, 0, 42 + b.toNatClampNeg) k, m) else (1, 0, m)) else (q6_ud b, 0, m)
def q6_wash (m : ZM) (fq hn : Nat) (b x : Int32) : Z3 :=
  if q6_ud b = 0 then (if x < 10 then (2, 0, m) else if x ≤ 90 then (if q_whole m (7, 0, 42 + b.toNatClampNeg) = 0 then (3, 0, m) else if q6_fh hn = 0 then (0, q_tinOfHead (m (7, 0, 42 + b.toNatClampNeg) 1) x, q_part m 0 (42 + b.toNatClampNeg) fq hn x) else (q6_fh hn, 0, m)) else (2, 0, m)) else (q6_ud b, 0, m)
def q6_again (m : ZM) (b : Int32) : Z3 := if q6_ud b = 0 then (0, q_moveR m (7, 0, 45) (6000 - q_whole m (7, 0, 42 + b.toNatClampNeg)), q_move m (7, 0, 45) (7, 0, 42 + b.toNatClampNeg) (6000 - q_whole m (7, 0, 42 + b.toNatClampNeg))) else (q6_ud b, 0, m)
def q6_smelt (m : ZM) (x : Int32) : Z3 := if 1 ≤ x then (if x ≤ q_whole m (7, 0, 45) then (0, q_smeltR m 0 x, q_smeltM m 0 x) else (3, 0, m)) else (2, 0, m)

set_option maxHeartbeats 4000000 in
set_option maxRecDepth 100000 in
theorem c_X6_boxNumbered (l : Launch) (hst : l.stackTraces = false) (D : va_G) (cy : Nat → ClassId) (ad : ZN → Nat) (m : ZM) (sz : Nat) {L : List ZN} (hL : zL L) {bc : Nat} (hbc : m (1, 0, 0) 9 = nI bc) (lbc : bc ≤ 4) (b : Int32) : vx_Met l yX6_boxNumbered (zws yX6_boxNumbered cX6_boxNumbered 2 (some (.object "StampWorks$Box"))) ({ frames := 6, cells := 1, slots := 6, locals := 100 } : Room) (zPx D cy ad L m sz [.ref (ad (0, 0, 0)), .int b]) (zQr (fun a m1 => a = ad (4, 0, b.toNatClampNeg) ∧ q6_bn b bc = 0 ∧ m1 = m) D cy ad L sz) (zXc (fun E u => ∃ kx, kx ≠ 0 ∧ E = zEn kx ∧ q6_bn b bc = kx ∧ u = m) D cy ad L sz) 1 6 (zA ad L sz) := by
  refine zXopen (Qc := fun sz => zQr (fun a m1 => a = ad (4, 0, b.toNatClampNeg) ∧ q6_bn b bc = 0 ∧ m1 = m) D cy ad L sz) (XC := fun sz => zXc (fun E u => ∃ kx, kx ≠ 0 ∧ E = zEn kx ∧ q6_bn b bc = kx ∧ u = m) D cy ad L sz) RX6 (by decide +kernel) rfl (Nat.le_of_ble_eq_true rfl) ?_
  intro p e s mi below meth c ls C E9 hnt hr hlocks hml hl H locs hw
  obtain ⟨hx, hb, hts, hown, hK, hNw⟩ := id C
  have hl : lv_has ls 2 [(0, .ref (ad (0, 0, 0))), (1, .int b)] := hl
  refine lv_iload_n hx hb dX6_boxNumbered_0 rfl (lv_at hl 1 rfl) ?_
  refine lv_if_lt (tgt := 15) hx hb dX6_boxNumbered_1 (by decide) (fun c1_1 => ?_) (fun c1_1 => ?_)
  · skip
    exact zthrow hst C E9 hnt (hl.1.trans hml.symm) hlocks hw (k := 1) (by decide) rfl rfl zTx_250 dX6_boxNumbered_15 dX6_boxNumbered_18 dX6_boxNumbered_19 dX6_boxNumbered_21 dX6_boxNumbered_24 ⟨Nat.le_of_ble_eq_true rfl, Nat.le_of_ble_eq_true rfl, Nat.le_of_ble_eq_true rfl, Nat.le_of_ble_eq_true rfl⟩ ⟨Nat.le_of_ble_eq_true rfl, Nat.le_of_ble_eq_true rfl⟩ ⟨1, by decide, rfl, if_pos c1_1, rfl⟩
  · skip
    refine lv_iload_n hx hb dX6_boxNumbered_4 rfl (lv_at hl 1 rfl) ?_
    refine lv_aload_n hx hb dX6_boxNumbered_5 rfl (lv_at hl 0 rfl) ?_
    refine zg_X6_10 C hw (zn0 hL) dX6_boxNumbered_6 ?_
    refine zg_X6_41 C hw (zn1 hL (by decide)) dX6_boxNumbered_9 ?_
    refine ztop hbc ?_
    refine lv_icmp_lt (tgt := 25) hx hb dX6_boxNumbered_12 (by decide) (fun c12_2 => ?_) (fun c12_2 => ?_)
    · skip
      obtain ⟨ub, lb⟩ := zx_nat (n := bc) (by omega) c1_1 c12_2
      refine lv_aload_n hx hb dX6_boxNumbered_25 rfl (lv_at hl 0 rfl) ?_
      refine zg_X6_10 C hw (zn0 hL) dX6_boxNumbered_26 ?_
      refine zg_X6_230 C hw (zn1 hL (by decide)) dX6_boxNumbered_29 ?_
      refine lv_iload_n hx hb dX6_boxNumbered_32 rfl (lv_at hl 1 rfl) ?_
      refine zald_3N C hw (zn3 hL (by decide)) b.toNatClampNeg (by omega) ub dX6_boxNumbered_33 ?_
      refine W.widen (k := 1) (n := 6) (by omega) (by omega) ?_
      refine vx_ret ?_
      exact zret_r C hr hlocks hw dX6_boxNumbered_34 ⟨rfl, (if_neg c1_1).trans (if_pos c12_2), rfl⟩
    · skip
      exact zthrow hst C E9 hnt (hl.1.trans hml.symm) hlocks hw (k := 1) (by decide) rfl rfl zTx_250 dX6_boxNumbered_15 dX6_boxNumbered_18 dX6_boxNumbered_19 dX6_boxNumbered_21 dX6_boxNumbered_24 ⟨Nat.le_of_ble_eq_true rfl, Nat.le_of_ble_eq_true rfl, Nat.le_of_ble_eq_true rfl, Nat.le_of_ble_eq_true rfl⟩ ⟨Nat.le_of_ble_eq_true rfl, Nat.le_of_ble_eq_true rfl⟩ ⟨1, by decide, rfl, (if_neg c1_1).trans (if_neg c12_2), rfl⟩

set_option maxHeartbeats 4000000 in
set_option maxRecDepth 100000 in
theorem c_X6_buddleNumbered (l : Launch) (hst : l.stackTraces = false) (D : va_G) (cy : Nat → ClassId) (ad : ZN → Nat) (m : ZM) (sz : Nat) {L : List ZN} (hL : zL L) (b : Int32) : vx_Met l yX6_buddleNumbered (zws yX6_buddleNumbered cX6_buddleNumbered 2 (some (.object "StampWorks$Ore"))) ({ frames := 6, cells := 1, slots := 6, locals := 100 } : Room) (zPx D cy ad L m sz [.ref (ad (0, 0, 0)), .int b]) (zQr (fun a m1 => a = ad (7, 0, 42 + b.toNatClampNeg) ∧ q6_ud b = 0 ∧ m1 = m) D cy ad L sz) (zXc (fun E u => ∃ kx, kx ≠ 0 ∧ E = zEn kx ∧ q6_ud b = kx ∧ u = m) D cy ad L sz) 1 6 (zA ad L sz) := by
  refine zXopen (Qc := fun sz => zQr (fun a m1 => a = ad (7, 0, 42 + b.toNatClampNeg) ∧ q6_ud b = 0 ∧ m1 = m) D cy ad L sz) (XC := fun sz => zXc (fun E u => ∃ kx, kx ≠ 0 ∧ E = zEn kx ∧ q6_ud b = kx ∧ u = m) D cy ad L sz) RX6 (by decide +kernel) rfl (Nat.le_of_ble_eq_true rfl) ?_
  intro p e s mi below meth c ls C E9 hnt hr hlocks hml hl H locs hw
  obtain ⟨hx, hb, hts, hown, hK, hNw⟩ := id C
  have hl : lv_has ls 2 [(0, .ref (ad (0, 0, 0))), (1, .int b)] := hl
  refine lv_iload_n hx hb dX6_buddleNumbered_0 rfl (lv_at hl 1 rfl) ?_
  refine lv_if_lt (tgt := 9) hx hb dX6_buddleNumbered_1 (by decide) (fun c1_1 => ?_) (fun c1_1 => ?_)
  · skip
    exact zthrow hst C E9 hnt (hl.1.trans hml.symm) hlocks hw (k := 1) (by decide) rfl rfl zTx_81 dX6_buddleNumbered_9 dX6_buddleNumbered_12 dX6_buddleNumbered_13 dX6_buddleNumbered_15 dX6_buddleNumbered_18 ⟨Nat.le_of_ble_eq_true rfl, Nat.le_of_ble_eq_true rfl, Nat.le_of_ble_eq_true rfl, Nat.le_of_ble_eq_true rfl⟩ ⟨Nat.le_of_ble_eq_true rfl, Nat.le_of_ble_eq_true rfl⟩ ⟨1, by decide, rfl, if_pos c1_1, rfl⟩
  · skip
    refine lv_iload_n hx hb dX6_buddleNumbered_4 rfl (lv_at hl 1 rfl) ?_
    refine lv_iconst (v := 3) hx hb dX6_buddleNumbered_5 (by decide) ?_
    refine lv_icmp_lt (tgt := 19) hx hb dX6_buddleNumbered_6 (by decide) (fun c6_2 => ?_) (fun c6_2 => ?_)
    · skip
      obtain ⟨ub, lb⟩ := zx_nat (n := 3) (by omega) c1_1 c6_2
      refine lv_aload_n hx hb dX6_buddleNumbered_19 rfl (lv_at hl 0 rfl) ?_
      refine zg_X6_10 C hw (zn0 hL) dX6_buddleNumbered_20 ?_
      refine zg_X6_242 C hw (zn1 hL (by decide)) dX6_buddleNumbered_23 ?_
      refine lv_iload_n hx hb dX6_buddleNumbered_26 rfl (lv_at hl 1 rfl) ?_
      refine zald_11N C hw (zn11 hL (by decide)) b.toNatClampNeg (by omega) ub dX6_buddleNumbered_27 ?_
      refine W.widen (k := 1) (n := 6) (by omega) (by omega) ?_
      refine vx_ret ?_
      exact zret_r C hr hlocks hw dX6_buddleNumbered_28 ⟨rfl, (if_neg c1_1).trans (if_pos c6_2), rfl⟩
    · skip
      exact zthrow hst C E9 hnt (hl.1.trans hml.symm) hlocks hw (k := 1) (by decide) rfl rfl zTx_81 dX6_buddleNumbered_9 dX6_buddleNumbered_12 dX6_buddleNumbered_13 dX6_buddleNumbered_15 dX6_buddleNumbered_18 ⟨Nat.le_of_ble_eq_true rfl, Nat.le_of_ble_eq_true rfl, Nat.le_of_ble_eq_true rfl, Nat.le_of_ble_eq_true rfl⟩ ⟨Nat.le_of_ble_eq_true rfl, Nat.le_of_ble_eq_true rfl⟩ ⟨1, by decide, rfl, (if_neg c1_1).trans (if_neg c6_2), rfl⟩

set_option maxHeartbeats 4000000 in
set_option maxRecDepth 100000 in
theorem c_X6_refuseFullHopper (l : Launch) (hst : l.stackTraces = false) (D : va_G) (cy : Nat → ClassId) (ad : ZN → Nat) (m : ZM) (sz : Nat) {L : List ZN} (hL : zL L) {hn : Nat} (hhn : m (8, 0, 0) 2 = nI hn) (lhn : hn ≤ 30) : vx_Met l yX6_refuseFullHopper (zws yX6_refuseFullHopper cX6_refuseFullHopper 1 none) ({ frames := 6, cells := 1, slots := 6, locals := 100 } : Room) (zPx D cy ad L m sz [.ref (ad (0, 0, 0))]) (zQv (fun m1 => q6_fh hn = 0 ∧ m1 = m) D cy ad L sz) (zXc (fun E u => ∃ kx, kx ≠ 0 ∧ E = zEn kx ∧ q6_fh hn = kx ∧ u = m) D cy ad L sz) 1 6 (zA ad L sz) := by
  refine zXopen (Qc := fun sz => zQv (fun m1 => q6_fh hn = 0 ∧ m1 = m) D cy ad L sz) (XC := fun sz => zXc (fun E u => ∃ kx, kx ≠ 0 ∧ E = zEn kx ∧ q6_fh hn = kx ∧ u = m) D cy ad L sz) RX6 (by decide +kernel) rfl (Nat.le_of_ble_eq_true rfl) ?_
  intro p e s mi below meth c ls C E9 hnt hr hlocks hml hl H locs hw
  obtain ⟨hx, hb, hts, hown, hK, hNw⟩ := id C
  have hl : lv_has ls 1 [(0, .ref (ad (0, 0, 0)))] := hl
  refine lv_aload_n hx hb dX6_refuseFullHopper_0 rfl (lv_at hl 0 rfl) ?_
  refine zg_X6_10 C hw (zn0 hL) dX6_refuseFullHopper_1 ?_
  refine zg_X6_104 C hw (zn1 hL (by decide)) dX6_refuseFullHopper_4 ?_
  refine zg_X6_114 C hw (zn8 hL (by decide)) dX6_refuseFullHopper_7 ?_
  refine ztop hhn ?_
  refine lv_bipush (v := 30) hx hb dX6_refuseFullHopper_10 (by decide) ?_
  refine lv_icmp_lt (tgt := 25) hx hb dX6_refuseFullHopper_12 (by decide) (fun c12_1 => ?_) (fun c12_1 => ?_)
  · skip
    have n2 := zlt c12_1 (a := hn) (b := 30) rfl rfl (by omega) (by omega)
    refine W.widen (k := 1) (n := 6) (by omega) (by omega) ?_
    refine vx_ret ?_
    exact zret_v C hr hlocks hw dX6_refuseFullHopper_25 ⟨if_pos c12_1, rfl⟩
  · skip
    have n3 := znlt c12_1 (a := hn) (b := 30) rfl rfl (by omega) (by omega)
    exact zthrow hst C E9 hnt (hl.1.trans hml.symm) hlocks hw (k := 3) (by decide) rfl rfl zTx_252 dX6_refuseFullHopper_15 dX6_refuseFullHopper_18 dX6_refuseFullHopper_19 dX6_refuseFullHopper_21 dX6_refuseFullHopper_24 ⟨Nat.le_of_ble_eq_true rfl, Nat.le_of_ble_eq_true rfl, Nat.le_of_ble_eq_true rfl, Nat.le_of_ble_eq_true rfl⟩ ⟨Nat.le_of_ble_eq_true rfl, Nat.le_of_ble_eq_true rfl⟩ ⟨3, by decide, rfl, if_neg c12_1, rfl⟩

set_option maxHeartbeats 4000000 in
set_option maxRecDepth 100000 in
theorem c_X6_refuseHours (l : Launch) (hst : l.stackTraces = false) (D : va_G) (cy : Nat → ClassId) (ad : ZN → Nat) (m : ZM) (sz : Nat) {L : List ZN} (h x : Int32) : vx_Met l yX6_refuseHours (zws yX6_refuseHours cX6_refuseHours 2 none) ({ frames := 6, cells := 1, slots := 6, locals := 100 } : Room) (zPx D cy ad L m sz [.int h, .int x]) (zQv (fun m1 => q6_rh h x = 0 ∧ m1 = m) D cy ad L sz) (zXc (fun E u => ∃ kx, kx ≠ 0 ∧ E = zEn kx ∧ q6_rh h x = kx ∧ u = m) D cy ad L sz) 1 6 (zA ad L sz) := by
  refine zXopen (Qc := fun sz => zQv (fun m1 => q6_rh h x = 0 ∧ m1 = m) D cy ad L sz) (XC := fun sz => zXc (fun E u => ∃ kx, kx ≠ 0 ∧ E = zEn kx ∧ q6_rh h x = kx ∧ u = m) D cy ad L sz) RX6 (by decide +kernel) rfl (Nat.le_of_ble_eq_true rfl) ?_
  intro p e s mi below meth c ls C E9 hnt hr hlocks hml hl H locs hw
  obtain ⟨hx, hb, hts, hown, hK, hNw⟩ := id C
  have hl : lv_has ls 2 [(0, .int h), (1, .int x)] := hl
  refine lv_iload_n hx hb dX6_refuseHours_0 rfl (lv_at hl 0 rfl) ?_
  refine lv_iconst (v := 1) hx hb dX6_refuseHours_1 (by decide) ?_
  refine lv_icmp_lt (tgt := 10) hx hb dX6_refuseHours_2 (by decide) (fun c2_1 => ?_) (fun c2_1 => ?_)
  · skip
    exact zthrow hst C E9 hnt (hl.1.trans hml.symm) hlocks hw (k := 2) (by decide) rfl rfl zTx_254 dX6_refuseHours_10 dX6_refuseHours_13 dX6_refuseHours_14 dX6_refuseHours_16 dX6_refuseHours_19 ⟨Nat.le_of_ble_eq_true rfl, Nat.le_of_ble_eq_true rfl, Nat.le_of_ble_eq_true rfl, Nat.le_of_ble_eq_true rfl⟩ ⟨Nat.le_of_ble_eq_true rfl, Nat.le_of_ble_eq_true rfl⟩ ⟨2, by decide, rfl, if_pos c2_1, rfl⟩
  · skip
    refine lv_iload_n hx hb dX6_refuseHours_5 rfl (lv_at hl 0 rfl) ?_
    refine lv_iload_n hx hb dX6_refuseHours_6 rfl (lv_at hl 1 rfl) ?_
    refine lv_icmp_le (tgt := 20) hx hb dX6_refuseHours_7 (by decide) (fun c7_2 => ?_) (fun c7_2 => ?_)
    · skip
      refine W.widen (k := 1) (n := 6) (by omega) (by omega) ?_
      refine vx_ret ?_
      exact zret_v C hr hlocks hw dX6_refuseHours_20 ⟨(if_neg c2_1).trans (if_pos c7_2), rfl⟩
    · skip
      exact zthrow hst C E9 hnt (hl.1.trans hml.symm) hlocks hw (k := 2) (by decide) rfl rfl zTx_254 dX6_refuseHours_10 dX6_refuseHours_13 dX6_refuseHours_14 dX6_refuseHours_16 dX6_refuseHours_19 ⟨Nat.le_of_ble_eq_true rfl, Nat.le_of_ble_eq_true rfl, Nat.le_of_ble_eq_true rfl, Nat.le_of_ble_eq_true rfl⟩ ⟨Nat.le_of_ble_eq_true rfl, Nat.le_of_ble_eq_true rfl⟩ ⟨2, by decide, rfl, (if_neg c2_1).trans (if_neg c7_2), rfl⟩

set_option maxHeartbeats 4000000 in
set_option maxRecDepth 100000 in
theorem c_X6_refuseLateHour (l : Launch) (hst : l.stackTraces = false) (D : va_G) (cy : Nat → ClassId) (ad : ZN → Nat) (m : ZM) (sz : Nat) {L : List ZN} (hL : zL L) (h : Int32) : vx_Met l yX6_refuseLateHour (zws yX6_refuseLateHour cX6_refuseLateHour 2 none) ({ frames := 6, cells := 1, slots := 6, locals := 100 } : Room) (zPx D cy ad L m sz [.ref (ad (0, 0, 0)), .int h]) (zQv (fun m1 => q6_lh m h = 0 ∧ m1 = m) D cy ad L sz) (zXc (fun E u => ∃ kx, kx ≠ 0 ∧ E = zEn kx ∧ q6_lh m h = kx ∧ u = m) D cy ad L sz) 1 6 (zA ad L sz) := by
  refine zXopen (Qc := fun sz => zQv (fun m1 => q6_lh m h = 0 ∧ m1 = m) D cy ad L sz) (XC := fun sz => zXc (fun E u => ∃ kx, kx ≠ 0 ∧ E = zEn kx ∧ q6_lh m h = kx ∧ u = m) D cy ad L sz) RX6 (by decide +kernel) rfl (Nat.le_of_ble_eq_true rfl) ?_
  intro p e s mi below meth c ls C E9 hnt hr hlocks hml hl H locs hw
  obtain ⟨hx, hb, hts, hown, hK, hNw⟩ := id C
  have hl : lv_has ls 2 [(0, .ref (ad (0, 0, 0))), (1, .int h)] := hl
  refine lv_iload_n hx hb dX6_refuseLateHour_0 rfl (lv_at hl 1 rfl) ?_
  refine lv_sipush (v := 5000) hx hb dX6_refuseLateHour_1 (by decide) ?_
  refine lv_aload_n hx hb dX6_refuseLateHour_4 rfl (lv_at hl 0 rfl) ?_
  refine zg_X6_10 C hw (zn0 hL) dX6_refuseLateHour_5 ?_
  refine zg_X6_256 C hw (zn1 hL (by decide)) dX6_refuseLateHour_8 ?_
  refine lv_isub hx hb dX6_refuseLateHour_11 ?_
  refine lv_icmp_le (tgt := 26) hx hb dX6_refuseLateHour_12 (by decide) (fun c12_1 => ?_) (fun c12_1 => ?_)
  · skip
    refine W.widen (k := 1) (n := 6) (by omega) (by omega) ?_
    refine vx_ret ?_
    exact zret_v C hr hlocks hw dX6_refuseLateHour_26 ⟨if_pos c12_1, rfl⟩
  · skip
    exact zthrowW hst C E9 hnt (hl.1.trans hml.symm) hlocks hw (k := 3) (by decide) rfl rfl zTx_259 dX6_refuseLateHour_15 dX6_refuseLateHour_18 dX6_refuseLateHour_19 dX6_refuseLateHour_22 dX6_refuseLateHour_25 ⟨Nat.le_of_ble_eq_true rfl, Nat.le_of_ble_eq_true rfl, Nat.le_of_ble_eq_true rfl, Nat.le_of_ble_eq_true rfl⟩ ⟨Nat.le_of_ble_eq_true rfl, Nat.le_of_ble_eq_true rfl⟩ ⟨3, by decide, rfl, if_neg c12_1, rfl⟩

set_option maxHeartbeats 4000000 in
set_option maxRecDepth 100000 in
theorem c_X6_setInflow (l : Launch) (hst : l.stackTraces = false) (D : va_G) (cy : Nat → ClassId) (ad : ZN → Nat) (m : ZM) (sz : Nat) {L : List ZN} (hL : zL L) (h x : Int32) : vx_Met l yX6_setInflow (zws yX6_setInflow cX6_setInflow 4 (some .int)) ({ frames := 6, cells := 1, slots := 6, locals := 100 } : Room) (zPx D cy ad L m sz [.ref (ad (0, 0, 0)), .int h, .int x]) (zQi (fun r m1 => q6_setInflow m h x = (0, r, m1)) D cy ad L sz) (zXc (fun E u => ∃ kx, kx ≠ 0 ∧ E = zEn kx ∧ q6_setInflow m h x = (kx, 0, u)) D cy ad L sz) 1 6 (zA ad L sz) := by
  refine zXopen (Qc := fun sz => zQi (fun r m1 => q6_setInflow m h x = (0, r, m1)) D cy ad L sz) (XC := fun sz => zXc (fun E u => ∃ kx, kx ≠ 0 ∧ E = zEn kx ∧ q6_setInflow m h x = (kx, 0, u)) D cy ad L sz) RX6 (by decide +kernel) rfl (Nat.le_of_ble_eq_true rfl) ?_
  intro p e s mi below meth c ls C E9 hnt hr hlocks hml hl H locs hw
  obtain ⟨hx, hb, hts, hown, hK, hNw⟩ := id C
  have hl : lv_has ls 4 [(0, .ref (ad (0, 0, 0))), (1, .int h), (2, .int x)] := hl
  refine lv_iload_n hx hb dX6_setInflow_0 rfl (lv_at hl 1 rfl) ?_
  refine lv_if_lt (tgt := 10) hx hb dX6_setInflow_1 (by decide) (fun c1_1 => ?_) (fun c1_1 => ?_)
  · skip
    exact zthrow hst C E9 hnt (hl.1.trans hml.symm) hlocks hw (k := 1) (by decide) rfl rfl zTx_21 dX6_setInflow_10 dX6_setInflow_13 dX6_setInflow_14 dX6_setInflow_16 dX6_setInflow_19 ⟨Nat.le_of_ble_eq_true rfl, Nat.le_of_ble_eq_true rfl, Nat.le_of_ble_eq_true rfl, Nat.le_of_ble_eq_true rfl⟩ ⟨Nat.le_of_ble_eq_true rfl, Nat.le_of_ble_eq_true rfl⟩ ⟨1, by decide, rfl, if_pos c1_1⟩
  · skip
    refine lv_iload_n hx hb dX6_setInflow_4 rfl (lv_at hl 1 rfl) ?_
    refine lv_bipush (v := 24) hx hb dX6_setInflow_5 (by decide) ?_
    refine lv_icmp_lt (tgt := 20) hx hb dX6_setInflow_7 (by decide) (fun c7_2 => ?_) (fun c7_2 => ?_)
    · skip
      obtain ⟨uh, lh⟩ := zx_nat (n := 24) (by decide) c1_1 c7_2
      refine lv_iload_n hx hb dX6_setInflow_20 rfl (lv_at hl 2 rfl) ?_
      refine lv_if_lt (tgt := 31) hx hb dX6_setInflow_21 (by decide) (fun c21_3 => ?_) (fun c21_3 => ?_)
      · skip
        exact zthrow hst C E9 hnt (hl.1.trans hml.symm) hlocks hw (k := 2) (by decide) rfl rfl zTx_28 dX6_setInflow_31 dX6_setInflow_34 dX6_setInflow_35 dX6_setInflow_37 dX6_setInflow_40 ⟨Nat.le_of_ble_eq_true rfl, Nat.le_of_ble_eq_true rfl, Nat.le_of_ble_eq_true rfl, Nat.le_of_ble_eq_true rfl⟩ ⟨Nat.le_of_ble_eq_true rfl, Nat.le_of_ble_eq_true rfl⟩ ⟨2, by decide, rfl, (if_neg c1_1).trans ((if_pos c7_2).trans (if_pos c21_3))⟩
      · skip
        refine lv_iload_n hx hb dX6_setInflow_24 rfl (lv_at hl 2 rfl) ?_
        refine lv_sipush (v := 900) hx hb dX6_setInflow_25 (by decide) ?_
        refine lv_icmp_le (tgt := 41) hx hb dX6_setInflow_28 (by decide) (fun c28_4 => ?_) (fun c28_4 => ?_)
        · skip
          refine lv_aload_n hx hb dX6_setInflow_41 rfl (lv_at hl 0 rfl) ?_
          refine zg_X6_10 C hw (zn0 hL) dX6_setInflow_42 ?_
          refine zg_X6_31 C hw (zn1 hL (by decide)) dX6_setInflow_45 ?_
          refine lv_iload_n hx hb dX6_setInflow_48 rfl (lv_at hl 1 rfl) ?_
          refine zaldN C hw (zn2 hL (by decide)) h.toNatClampNeg (by omega) uh (by decide) dX6_setInflow_49 ?_
          refine lv_topi (fun x5 ex5 => ?_)
          refine lv_istore_n (lv' := [(3, .int x5), (0, .ref (ad (0, 0, 0))), (1, .int h), (2, .int x)]) hx hb dX6_setInflow_50 rfl hl (by decide) rfl (fun ls hl => ?_)
          refine lv_aload_n hx hb dX6_setInflow_51 rfl (lv_at hl 1 rfl) ?_
          refine zg_X6_10 C hw (zn0 hL) dX6_setInflow_52 ?_
          refine zg_X6_31 C hw (zn1 hL (by decide)) dX6_setInflow_55 ?_
          refine lv_iload_n hx hb dX6_setInflow_58 rfl (lv_at hl 2 rfl) ?_
          refine lv_iload_n hx hb dX6_setInflow_59 rfl (lv_at hl 3 rfl) ?_
          refine zastN C hw (zn2 hL (by decide)) h.toNatClampNeg (by omega) uh (by decide) dX6_setInflow_60 (fun H locs m6 em6 hw => ?_)
          refine lv_iload_n hx hb dX6_setInflow_61 rfl (lv_at hl 0 rfl) ?_
          refine W.widen (k := 1) (n := 6) (by omega) (by omega) ?_
          refine vx_ret ?_
          exact zret_i C hr hlocks hw dX6_setInflow_62 (by subst_vars; exact (if_neg c1_1).trans ((if_pos c7_2).trans ((if_neg c21_3).trans (if_pos c28_4))))
        · skip
          exact zthrow hst C E9 hnt (hl.1.trans hml.symm) hlocks hw (k := 2) (by decide) rfl rfl zTx_28 dX6_setInflow_31 dX6_setInflow_34 dX6_setInflow_35 dX6_setInflow_37 dX6_setInflow_40 ⟨Nat.le_of_ble_eq_true rfl, Nat.le_of_ble_eq_true rfl, Nat.le_of_ble_eq_true rfl, Nat.le_of_ble_eq_true rfl⟩ ⟨Nat.le_of_ble_eq_true rfl, Nat.le_of_ble_eq_true rfl⟩ ⟨2, by decide, rfl, (if_neg c1_1).trans ((if_pos c7_2).trans ((if_neg c21_3).trans (if_neg c28_4)))⟩
    · skip
      exact zthrow hst C E9 hnt (hl.1.trans hml.symm) hlocks hw (k := 1) (by decide) rfl rfl zTx_21 dX6_setInflow_10 dX6_setInflow_13 dX6_setInflow_14 dX6_setInflow_16 dX6_setInflow_19 ⟨Nat.le_of_ble_eq_true rfl, Nat.le_of_ble_eq_true rfl, Nat.le_of_ble_eq_true rfl, Nat.le_of_ble_eq_true rfl⟩ ⟨Nat.le_of_ble_eq_true rfl, Nat.le_of_ble_eq_true rfl⟩ ⟨1, by decide, rfl, (if_neg c1_1).trans (if_neg c7_2)⟩

set_option maxHeartbeats 4000000 in
set_option maxRecDepth 100000 in
theorem c_X6_setSluice (l : Launch) (hst : l.stackTraces = false) (D : va_G) (cy : Nat → ClassId) (ad : ZN → Nat) (m : ZM) (sz : Nat) {L : List ZN} (hL : zL L) (x : Int32) : vx_Met l yX6_setSluice (zws yX6_setSluice cX6_setSluice 3 (some .int)) ({ frames := 6, cells := 1, slots := 6, locals := 100 } : Room) (zPx D cy ad L m sz [.ref (ad (0, 0, 0)), .int x]) (zQi (fun r m1 => q6_setSluice m x = (0, r, m1)) D cy ad L sz) (zXc (fun E u => ∃ kx, kx ≠ 0 ∧ E = zEn kx ∧ q6_setSluice m x = (kx, 0, u)) D cy ad L sz) 1 6 (zA ad L sz) := by
  refine zXopen (Qc := fun sz => zQi (fun r m1 => q6_setSluice m x = (0, r, m1)) D cy ad L sz) (XC := fun sz => zXc (fun E u => ∃ kx, kx ≠ 0 ∧ E = zEn kx ∧ q6_setSluice m x = (kx, 0, u)) D cy ad L sz) RX6 (by decide +kernel) rfl (Nat.le_of_ble_eq_true rfl) ?_
  intro p e s mi below meth c ls C E9 hnt hr hlocks hml hl H locs hw
  obtain ⟨hx, hb, hts, hown, hK, hNw⟩ := id C
  have hl : lv_has ls 3 [(0, .ref (ad (0, 0, 0))), (1, .int x)] := hl
  refine lv_iload_n hx hb dX6_setSluice_0 rfl (lv_at hl 1 rfl) ?_
  refine lv_if_lt (tgt := 10) hx hb dX6_setSluice_1 (by decide) (fun c1_1 => ?_) (fun c1_1 => ?_)
  · skip
    exact zthrow hst C E9 hnt (hl.1.trans hml.symm) hlocks hw (k := 2) (by decide) rfl rfl zTx_35 dX6_setSluice_10 dX6_setSluice_13 dX6_setSluice_14 dX6_setSluice_16 dX6_setSluice_19 ⟨Nat.le_of_ble_eq_true rfl, Nat.le_of_ble_eq_true rfl, Nat.le_of_ble_eq_true rfl, Nat.le_of_ble_eq_true rfl⟩ ⟨Nat.le_of_ble_eq_true rfl, Nat.le_of_ble_eq_true rfl⟩ ⟨2, by decide, rfl, if_pos c1_1⟩
  · skip
    refine lv_iload_n hx hb dX6_setSluice_4 rfl (lv_at hl 1 rfl) ?_
    refine lv_bipush (v := 20) hx hb dX6_setSluice_5 (by decide) ?_
    refine lv_icmp_le (tgt := 20) hx hb dX6_setSluice_7 (by decide) (fun c7_2 => ?_) (fun c7_2 => ?_)
    · skip
      refine lv_aload_n hx hb dX6_setSluice_20 rfl (lv_at hl 0 rfl) ?_
      refine zg_X6_10 C hw (zn0 hL) dX6_setSluice_21 ?_
      refine zg_X6_37 C hw (zn1 hL (by decide)) dX6_setSluice_24 ?_
      refine lv_topi (fun x3 ex3 => ?_)
      refine lv_istore_n (lv' := [(2, .int x3), (0, .ref (ad (0, 0, 0))), (1, .int x)]) hx hb dX6_setSluice_27 rfl hl (by decide) rfl (fun ls hl => ?_)
      refine lv_aload_n hx hb dX6_setSluice_28 rfl (lv_at hl 1 rfl) ?_
      refine zg_X6_10 C hw (zn0 hL) dX6_setSluice_29 ?_
      refine lv_iload_n hx hb dX6_setSluice_32 rfl (lv_at hl 2 rfl) ?_
      refine zp_X6_37 C hw (zn1 hL (by decide)) dX6_setSluice_33 (fun H locs m4 em4 hw => ?_)
      refine lv_iload_n hx hb dX6_setSluice_36 rfl (lv_at hl 0 rfl) ?_
      refine W.widen (k := 1) (n := 6) (by omega) (by omega) ?_
      refine vx_ret ?_
      exact zret_i C hr hlocks hw dX6_setSluice_37 (by subst_vars; exact (if_neg c1_1).trans (if_pos c7_2))
    · skip
      exact zthrow hst C E9 hnt (hl.1.trans hml.symm) hlocks hw (k := 2) (by decide) rfl rfl zTx_35 dX6_setSluice_10 dX6_setSluice_13 dX6_setSluice_14 dX6_setSluice_16 dX6_setSluice_19 ⟨Nat.le_of_ble_eq_true rfl, Nat.le_of_ble_eq_true rfl, Nat.le_of_ble_eq_true rfl, Nat.le_of_ble_eq_true rfl⟩ ⟨Nat.le_of_ble_eq_true rfl, Nat.le_of_ble_eq_true rfl⟩ ⟨2, by decide, rfl, (if_neg c1_1).trans (if_neg c7_2)⟩

set_option maxHeartbeats 4000000 in
set_option maxRecDepth 100000 in
theorem c_X6_addBox (l : Launch) (hst : l.stackTraces = false) (D : va_G) (cy : Nat → ClassId) (ad : ZN → Nat) (m : ZM) (sz : Nat) {L : List ZN} (hL : zL L) {bc : Nat} (hbc : m (1, 0, 0) 9 = nI bc) (lbc : bc ≤ 4) : vx_Met l yX6_addBox (zws yX6_addBox cX6_addBox 1 (some .int)) ({ frames := 6, cells := 1, slots := 6, locals := 100 } : Room) (zPx D cy ad L m sz [.ref (ad (0, 0, 0))]) (zQi (fun r m1 => q6_addBox m bc = (0, r, m1)) D cy ad L sz) (zXc (fun E u => ∃ kx, kx ≠ 0 ∧ E = zEn kx ∧ q6_addBox m bc = (kx, 0, u)) D cy ad L sz) 1 6 (zA ad L sz) := by
  refine zXopen (Qc := fun sz => zQi (fun r m1 => q6_addBox m bc = (0, r, m1)) D cy ad L sz) (XC := fun sz => zXc (fun E u => ∃ kx, kx ≠ 0 ∧ E = zEn kx ∧ q6_addBox m bc = (kx, 0, u)) D cy ad L sz) RX6 (by decide +kernel) rfl (Nat.le_of_ble_eq_true rfl) ?_
  intro p e s mi below meth c ls C E9 hnt hr hlocks hml hl H locs hw
  obtain ⟨hx, hb, hts, hown, hK, hNw⟩ := id C
  have hl : lv_has ls 1 [(0, .ref (ad (0, 0, 0)))] := hl
  refine lv_aload_n hx hb dX6_addBox_0 rfl (lv_at hl 0 rfl) ?_
  refine zg_X6_10 C hw (zn0 hL) dX6_addBox_1 ?_
  refine zg_X6_41 C hw (zn1 hL (by decide)) dX6_addBox_4 ?_
  refine ztop hbc ?_
  refine lv_iconst (v := 4) hx hb dX6_addBox_7 (by decide) ?_
  refine lv_icmp_lt (tgt := 21) hx hb dX6_addBox_8 (by decide) (fun c8_1 => ?_) (fun c8_1 => ?_)
  · skip
    have n2 := zlt c8_1 (a := bc) (b := 4) rfl rfl (by omega) (by omega)
    refine lv_aload_n hx hb dX6_addBox_21 rfl (lv_at hl 0 rfl) ?_
    refine zg_X6_10 C hw (zn0 hL) dX6_addBox_22 ?_
    refine lv_dup hx hb dX6_addBox_25 rfl ?_
    refine zg_X6_41 C hw (zn1 hL (by decide)) dX6_addBox_26 ?_
    refine ztop hbc ?_
    refine lv_iconst (v := 1) hx hb dX6_addBox_29 (by decide) ?_
    refine lv_iadd hx hb dX6_addBox_30 ?_
    refine zp_X6_41 C hw (zn1 hL (by decide)) dX6_addBox_31 (fun H locs m3 em3 hw => ?_)
    refine lv_aload_n hx hb dX6_addBox_34 rfl (lv_at hl 0 rfl) ?_
    refine zg_X6_10 C hw (zn0 hL) dX6_addBox_35 ?_
    refine zg_X6_41 C hw (zn1 hL (by decide)) dX6_addBox_38 ?_
    refine lv_iconst (v := 1) hx hb dX6_addBox_41 (by decide) ?_
    refine lv_isub hx hb dX6_addBox_42 ?_
    refine W.widen (k := 1) (n := 6) (by omega) (by omega) ?_
    refine vx_ret ?_
    exact zret_i C hr hlocks hw dX6_addBox_43 (by subst_vars; exact if_pos c8_1)
  · skip
    have n4 := znlt c8_1 (a := bc) (b := 4) rfl rfl (by omega) (by omega)
    exact zthrow hst C E9 hnt (hl.1.trans hml.symm) hlocks hw (k := 3) (by decide) rfl rfl zTx_46 dX6_addBox_11 dX6_addBox_14 dX6_addBox_15 dX6_addBox_17 dX6_addBox_20 ⟨Nat.le_of_ble_eq_true rfl, Nat.le_of_ble_eq_true rfl, Nat.le_of_ble_eq_true rfl, Nat.le_of_ble_eq_true rfl⟩ ⟨Nat.le_of_ble_eq_true rfl, Nat.le_of_ble_eq_true rfl⟩ ⟨3, by decide, rfl, if_neg c8_1⟩

set_option maxHeartbeats 4000000 in
set_option maxRecDepth 100000 in
theorem c_X6_hang (l : Launch) (hst : l.stackTraces = false) (D : va_G) (cy : Nat → ClassId) (ad : ZN → Nat) (m : ZM) (sz : Nat) {L : List ZN} (hL : zL L) {bc : Nat} {sc bu : Nat → Nat} {hq : Nat} (G : gW m 0 bc sc bu hq) (b x y : Int32) : vx_Met l yX6_hang (zws yX6_hang cX6_hang 5 (some .int)) ({ frames := 7, cells := 2, slots := 12, locals := 121 } : Room) (zPx D cy ad L m sz [.ref (ad (0, 0, 0)), .int b, .int x, .int y]) (zQi (fun r m1 => q6_hang m bc sc b x y = (0, r, m1)) D cy ad L sz) (zXc (fun E u => ∃ kx, kx ≠ 0 ∧ E = zEn kx ∧ q6_hang m bc sc b x y = (kx, 0, u)) D cy ad L sz) 2 12 (zA ad L sz) := by
  refine zXopen (Qc := fun sz => zQi (fun r m1 => q6_hang m bc sc b x y = (0, r, m1)) D cy ad L sz) (XC := fun sz => zXc (fun E u => ∃ kx, kx ≠ 0 ∧ E = zEn kx ∧ q6_hang m bc sc b x y = (kx, 0, u)) D cy ad L sz) RX6 (by decide +kernel) rfl (Nat.le_of_ble_eq_true rfl) ?_
  intro p e s mi below meth c ls C E9 hnt hr hlocks hml hl H locs hw
  obtain ⟨hx, hb, hts, hown, hK, hNw⟩ := id C
  have hl : lv_has ls 5 [(0, .ref (ad (0, 0, 0))), (1, .int b), (2, .int x), (3, .int y)] := hl
  obtain ⟨hbc, lbc, hbx, ⟨f, hf, lf⟩, hhr, lhr⟩ := id G
  refine lv_aload_n hx hb dX6_hang_0 rfl (lv_at hl 0 rfl) ?_
  refine lv_iload_n hx hb dX6_hang_1 rfl (lv_at hl 1 rfl) ?_
  refine zxa_r C hnt hlocks hw (zrunVx (rest := []) C E9 hml hl.1 hw (zn0 hL) rfl rfl (c_X6_boxNumbered l hst D cy ad m H.size hL hbc lbc b) zv_X6_49 rfl rfl rfl ⟨Nat.le_of_ble_eq_true rfl, Nat.le_of_ble_eq_true rfl⟩ rfl (Nat.le_of_ble_eq_true rfl) dX6_hang_2 ⟨Nat.le_of_ble_eq_true rfl, Nat.le_of_ble_eq_true rfl⟩) ⟨Nat.le_of_ble_eq_true rfl, Nat.le_of_ble_eq_true rfl⟩ (fun E u h => by obtain ⟨k9, hk9, he9, hc9, rfl⟩ := h; subst hc9; exact ⟨_, hk9, he9, if_neg hk9⟩) (fun r3 m2 H locs h1 hw => ?_)
  obtain ⟨er3, kh1, h1⟩ := h1
  rw [h1] at hw
  clear h1 m2
  subst er3
  obtain ⟨ub, lb⟩ := q6_bn_ok (by omega) kh1
  obtain ⟨hcn, lcn, -, -⟩ := hbx b.toNatClampNeg (by omega)
  refine lv_astore (lv' := [(4, .ref (ad (4, 0, b.toNatClampNeg))), (0, .ref (ad (0, 0, 0))), (1, .int b), (2, .int x), (3, .int y)]) hx hb dX6_hang_5 hl (by decide) rfl (fun ls hl => ?_)
  refine lv_iload_n hx hb dX6_hang_7 rfl (lv_at hl 3 rfl) ?_
  refine lv_bipush (v := 10) hx hb dX6_hang_8 (by decide) ?_
  refine lv_icmp_lt (tgt := 19) hx hb dX6_hang_10 (by decide) (fun c10_4 => ?_) (fun c10_4 => ?_)
  · skip
    exact zthrow hst C E9 hnt (hl.1.trans hml.symm) hlocks hw (k := 2) (by decide) rfl rfl zTx_53 dX6_hang_19 dX6_hang_22 dX6_hang_23 dX6_hang_25 dX6_hang_28 ⟨Nat.le_of_ble_eq_true rfl, Nat.le_of_ble_eq_true rfl, Nat.le_of_ble_eq_true rfl, Nat.le_of_ble_eq_true rfl⟩ ⟨Nat.le_of_ble_eq_true rfl, Nat.le_of_ble_eq_true rfl⟩ ⟨2, by decide, rfl, (if_pos kh1).trans (if_pos c10_4)⟩
  · skip
    refine lv_iload_n hx hb dX6_hang_13 rfl (lv_at hl 3 rfl) ?_
    refine lv_bipush (v := 60) hx hb dX6_hang_14 (by decide) ?_
    refine lv_icmp_le (tgt := 29) hx hb dX6_hang_16 (by decide) (fun c16_5 => ?_) (fun c16_5 => ?_)
    · skip
      refine lv_iload_n hx hb dX6_hang_29 rfl (lv_at hl 4 rfl) ?_
      refine lv_iconst (v := 1) hx hb dX6_hang_30 (by decide) ?_
      refine lv_icmp_lt (tgt := 39) hx hb dX6_hang_31 (by decide) (fun c31_6 => ?_) (fun c31_6 => ?_)
      · skip
        exact zthrow hst C E9 hnt (hl.1.trans hml.symm) hlocks hw (k := 2) (by decide) rfl rfl zTx_55 dX6_hang_39 dX6_hang_42 dX6_hang_43 dX6_hang_45 dX6_hang_48 ⟨Nat.le_of_ble_eq_true rfl, Nat.le_of_ble_eq_true rfl, Nat.le_of_ble_eq_true rfl, Nat.le_of_ble_eq_true rfl⟩ ⟨Nat.le_of_ble_eq_true rfl, Nat.le_of_ble_eq_true rfl⟩ ⟨2, by decide, rfl, (if_pos kh1).trans ((if_neg c10_4).trans ((if_pos c16_5).trans (if_pos c31_6)))⟩
      · skip
        refine lv_iload_n hx hb dX6_hang_34 rfl (lv_at hl 4 rfl) ?_
        refine lv_iconst (v := 4) hx hb dX6_hang_35 (by decide) ?_
        refine lv_icmp_le (tgt := 49) hx hb dX6_hang_36 (by decide) (fun c36_7 => ?_) (fun c36_7 => ?_)
        · skip
          refine lv_aload hx hb dX6_hang_49 (lv_at hl 0 rfl) ?_
          refine zg_X6_57 C hw (zn4 hL (by decide) (by omega)) dX6_hang_51 ?_
          refine ztop hcn ?_
          refine lv_iconst (v := 4) hx hb dX6_hang_54 (by decide) ?_
          refine lv_icmp_lt (tgt := 68) hx hb dX6_hang_55 (by decide) (fun c55_8 => ?_) (fun c55_8 => ?_)
          · skip
            have n9 := zlt c55_8 (a := (sc b.toNatClampNeg)) (b := 4) rfl rfl (by omega) (by omega)
            refine lv_aload hx hb dX6_hang_68 (lv_at hl 0 rfl) ?_
            refine lv_iload_n hx hb dX6_hang_70 rfl (lv_at hl 3 rfl) ?_
            refine lv_iload_n hx hb dX6_hang_71 rfl (lv_at hl 4 rfl) ?_
            refine zafter_v C hw (zrunV (rest := []) C hml hl.1 hw (zn4 hL (by decide) (by omega)) rfl rfl (c_X0_addStamp l D cy ad m H.size hL (by decide) (by omega) hcn (by omega) x y) zv_X6_64 rfl rfl rfl ⟨Nat.le_of_ble_eq_true rfl, Nat.le_of_ble_eq_true rfl⟩ rfl (Nat.le_of_ble_eq_true rfl) dX6_hang_72 ⟨Nat.le_of_ble_eq_true rfl, Nat.le_of_ble_eq_true rfl⟩) (fun m11 H locs h10 hw => ?_)
            have em11 := h10
            refine lv_aload hx hb dX6_hang_75 (lv_at hl 0 rfl) ?_
            refine zg_X6_57 C hw (zn4 hL (by decide) (by omega)) dX6_hang_77 ?_
            refine W.widen (k := 2) (n := 12) (by omega) (by omega) ?_
            refine vx_ret ?_
            exact zret_i C hr hlocks hw dX6_hang_80 (by subst_vars; exact (if_pos kh1).trans ((if_neg c10_4).trans ((if_pos c16_5).trans ((if_neg c31_6).trans ((if_pos c36_7).trans (if_pos c55_8))))))
          · skip
            have n13 := znlt c55_8 (a := (sc b.toNatClampNeg)) (b := 4) rfl rfl (by omega) (by omega)
            exact zthrow hst C E9 hnt (hl.1.trans hml.symm) hlocks hw (k := 3) (by decide) rfl rfl zTx_62 dX6_hang_58 dX6_hang_61 dX6_hang_62 dX6_hang_64 dX6_hang_67 ⟨Nat.le_of_ble_eq_true rfl, Nat.le_of_ble_eq_true rfl, Nat.le_of_ble_eq_true rfl, Nat.le_of_ble_eq_true rfl⟩ ⟨Nat.le_of_ble_eq_true rfl, Nat.le_of_ble_eq_true rfl⟩ ⟨3, by decide, rfl, (if_pos kh1).trans ((if_neg c10_4).trans ((if_pos c16_5).trans ((if_neg c31_6).trans ((if_pos c36_7).trans (if_neg c55_8)))))⟩
        · skip
          exact zthrow hst C E9 hnt (hl.1.trans hml.symm) hlocks hw (k := 2) (by decide) rfl rfl zTx_55 dX6_hang_39 dX6_hang_42 dX6_hang_43 dX6_hang_45 dX6_hang_48 ⟨Nat.le_of_ble_eq_true rfl, Nat.le_of_ble_eq_true rfl, Nat.le_of_ble_eq_true rfl, Nat.le_of_ble_eq_true rfl⟩ ⟨Nat.le_of_ble_eq_true rfl, Nat.le_of_ble_eq_true rfl⟩ ⟨2, by decide, rfl, (if_pos kh1).trans ((if_neg c10_4).trans ((if_pos c16_5).trans ((if_neg c31_6).trans (if_neg c36_7))))⟩
    · skip
      exact zthrow hst C E9 hnt (hl.1.trans hml.symm) hlocks hw (k := 2) (by decide) rfl rfl zTx_53 dX6_hang_19 dX6_hang_22 dX6_hang_23 dX6_hang_25 dX6_hang_28 ⟨Nat.le_of_ble_eq_true rfl, Nat.le_of_ble_eq_true rfl, Nat.le_of_ble_eq_true rfl, Nat.le_of_ble_eq_true rfl⟩ ⟨Nat.le_of_ble_eq_true rfl, Nat.le_of_ble_eq_true rfl⟩ ⟨2, by decide, rfl, (if_pos kh1).trans ((if_neg c10_4).trans (if_neg c16_5))⟩

set_option maxHeartbeats 4000000 in
set_option maxRecDepth 100000 in
theorem c_X6_shoe (l : Launch) (hst : l.stackTraces = false) (D : va_G) (cy : Nat → ClassId) (ad : ZN → Nat) (m : ZM) (sz : Nat) {L : List ZN} (hL : zL L) {bc : Nat} {sc bu : Nat → Nat} {hq : Nat} (G : gW m 0 bc sc bu hq) (b k : Int32) : vx_Met l yX6_shoe (zws yX6_shoe cX6_shoe 5 (some .int)) ({ frames := 7, cells := 2, slots := 12, locals := 121 } : Room) (zPx D cy ad L m sz [.ref (ad (0, 0, 0)), .int b, .int k]) (zQi (fun r m1 => q6_shoe m bc sc b k = (0, r, m1)) D cy ad L sz) (zXc (fun E u => ∃ kx, kx ≠ 0 ∧ E = zEn kx ∧ q6_shoe m bc sc b k = (kx, 0, u)) D cy ad L sz) 2 12 (zA ad L sz) := by
  refine zXopen (Qc := fun sz => zQi (fun r m1 => q6_shoe m bc sc b k = (0, r, m1)) D cy ad L sz) (XC := fun sz => zXc (fun E u => ∃ kx, kx ≠ 0 ∧ E = zEn kx ∧ q6_shoe m bc sc b k = (kx, 0, u)) D cy ad L sz) RX6 (by decide +kernel) rfl (Nat.le_of_ble_eq_true rfl) ?_
  intro p e s mi below meth c ls C E9 hnt hr hlocks hml hl H locs hw
  obtain ⟨hx, hb, hts, hown, hK, hNw⟩ := id C
  have hl : lv_has ls 5 [(0, .ref (ad (0, 0, 0))), (1, .int b), (2, .int k)] := hl
  obtain ⟨hbc, lbc, hbx, ⟨f, hf, lf⟩, hhr, lhr⟩ := id G
  refine lv_aload_n hx hb dX6_shoe_0 rfl (lv_at hl 0 rfl) ?_
  refine lv_iload_n hx hb dX6_shoe_1 rfl (lv_at hl 1 rfl) ?_
  refine zxa_r C hnt hlocks hw (zrunVx (rest := []) C E9 hml hl.1 hw (zn0 hL) rfl rfl (c_X6_boxNumbered l hst D cy ad m H.size hL hbc lbc b) zv_X6_49 rfl rfl rfl ⟨Nat.le_of_ble_eq_true rfl, Nat.le_of_ble_eq_true rfl⟩ rfl (Nat.le_of_ble_eq_true rfl) dX6_shoe_2 ⟨Nat.le_of_ble_eq_true rfl, Nat.le_of_ble_eq_true rfl⟩) ⟨Nat.le_of_ble_eq_true rfl, Nat.le_of_ble_eq_true rfl⟩ (fun E u h => by obtain ⟨k9, hk9, he9, hc9, rfl⟩ := h; subst hc9; exact ⟨_, hk9, he9, if_neg hk9⟩) (fun r3 m2 H locs h1 hw => ?_)
  obtain ⟨er3, kh1, h1⟩ := h1
  rw [h1] at hw
  clear h1 m2
  subst er3
  obtain ⟨ub, lb⟩ := q6_bn_ok (by omega) kh1
  obtain ⟨hcn, lcn, -, -⟩ := hbx b.toNatClampNeg (by omega)
  refine lv_astore_n (lv' := [(3, .ref (ad (4, 0, b.toNatClampNeg))), (0, .ref (ad (0, 0, 0))), (1, .int b), (2, .int k)]) hx hb dX6_shoe_5 rfl hl (by decide) rfl (fun ls hl => ?_)
  refine lv_iload_n hx hb dX6_shoe_6 rfl (lv_at hl 3 rfl) ?_
  refine lv_if_lt (tgt := 18) hx hb dX6_shoe_7 (by decide) (fun c7_4 => ?_) (fun c7_4 => ?_)
  · skip
    exact zthrow hst C E9 hnt (hl.1.trans hml.symm) hlocks hw (k := 1) (by decide) rfl rfl zTx_68 dX6_shoe_18 dX6_shoe_21 dX6_shoe_22 dX6_shoe_24 dX6_shoe_27 ⟨Nat.le_of_ble_eq_true rfl, Nat.le_of_ble_eq_true rfl, Nat.le_of_ble_eq_true rfl, Nat.le_of_ble_eq_true rfl⟩ ⟨Nat.le_of_ble_eq_true rfl, Nat.le_of_ble_eq_true rfl⟩ ⟨1, by decide, rfl, (if_pos kh1).trans (if_pos c7_4)⟩
  · skip
    refine lv_iload_n hx hb dX6_shoe_10 rfl (lv_at hl 3 rfl) ?_
    refine lv_aload_n hx hb dX6_shoe_11 rfl (lv_at hl 0 rfl) ?_
    refine zg_X6_57 C hw (zn4 hL (by decide) (by omega)) dX6_shoe_12 ?_
    refine ztop hcn ?_
    refine lv_icmp_lt (tgt := 28) hx hb dX6_shoe_15 (by decide) (fun c15_5 => ?_) (fun c15_5 => ?_)
    · skip
      obtain ⟨uk, lk⟩ := zx_nat (n := sc b.toNatClampNeg) (by omega) c7_4 c15_5
      refine lv_aload_n hx hb dX6_shoe_28 rfl (lv_at hl 0 rfl) ?_
      refine zg_X6_70 C hw (zn4 hL (by decide) (by omega)) dX6_shoe_29 ?_
      refine lv_iload_n hx hb dX6_shoe_32 rfl (lv_at hl 3 rfl) ?_
      refine zald_5N C hw (zn5 hL (by decide) (by omega)) k.toNatClampNeg (by omega) uk dX6_shoe_33 ?_
      refine zg_X6_74 C hw (zn6 hL (by decide) (by omega)) dX6_shoe_34 ?_
      refine lv_topi (fun x6 ex6 => ?_)
      refine lv_istore (lv' := [(4, .int x6), (3, .ref (ad (4, 0, b.toNatClampNeg))), (0, .ref (ad (0, 0, 0))), (1, .int b), (2, .int k)]) hx hb dX6_shoe_37 hl (by decide) rfl (fun ls hl => ?_)
      refine lv_aload_n hx hb dX6_shoe_39 rfl (lv_at hl 1 rfl) ?_
      refine zg_X6_70 C hw (zn4 hL (by decide) (by omega)) dX6_shoe_40 ?_
      refine lv_iload_n hx hb dX6_shoe_43 rfl (lv_at hl 4 rfl) ?_
      refine zald_5N C hw (zn5 hL (by decide) (by omega)) k.toNatClampNeg (by omega) uk dX6_shoe_44 ?_
      refine lv_iconst (v := 0) hx hb dX6_shoe_45 (by decide) ?_
      refine zp_X6_74 C hw (zn6 hL (by decide) (by omega)) dX6_shoe_46 (fun H locs m7 em7 hw => ?_)
      refine lv_iload hx hb dX6_shoe_49 (lv_at hl 0 rfl) ?_
      refine W.widen (k := 2) (n := 12) (by omega) (by omega) ?_
      refine vx_ret ?_
      exact zret_i C hr hlocks hw dX6_shoe_51 (by subst_vars; exact (if_pos kh1).trans ((if_neg c7_4).trans (if_pos c15_5)))
    · skip
      exact zthrow hst C E9 hnt (hl.1.trans hml.symm) hlocks hw (k := 1) (by decide) rfl rfl zTx_68 dX6_shoe_18 dX6_shoe_21 dX6_shoe_22 dX6_shoe_24 dX6_shoe_27 ⟨Nat.le_of_ble_eq_true rfl, Nat.le_of_ble_eq_true rfl, Nat.le_of_ble_eq_true rfl, Nat.le_of_ble_eq_true rfl⟩ ⟨Nat.le_of_ble_eq_true rfl, Nat.le_of_ble_eq_true rfl⟩ ⟨1, by decide, rfl, (if_pos kh1).trans ((if_neg c7_4).trans (if_neg c15_5))⟩

set_option maxHeartbeats 4000000 in
set_option maxRecDepth 100000 in
theorem c_X6_setBox (l : Launch) (hst : l.stackTraces = false) (D : va_G) (cy : Nat → ClassId) (ad : ZN → Nat) (m : ZM) (sz : Nat) {L : List ZN} (hL : zL L) {bc : Nat} {sc bu : Nat → Nat} {hq : Nat} (G : gW m 0 bc sc bu hq) (b x y : Int32) : vx_Met l yX6_setBox (zws yX6_setBox cX6_setBox 6 (some .int)) ({ frames := 7, cells := 2, slots := 12, locals := 121 } : Room) (zPx D cy ad L m sz [.ref (ad (0, 0, 0)), .int b, .int x, .int y]) (zQi (fun r m1 => q6_setBox m bc b x y = (0, r, m1)) D cy ad L sz) (zXc (fun E u => ∃ kx, kx ≠ 0 ∧ E = zEn kx ∧ q6_setBox m bc b x y = (kx, 0, u)) D cy ad L sz) 2 12 (zA ad L sz) := by
  refine zXopen (Qc := fun sz => zQi (fun r m1 => q6_setBox m bc b x y = (0, r, m1)) D cy ad L sz) (XC := fun sz => zXc (fun E u => ∃ kx, kx ≠ 0 ∧ E = zEn kx ∧ q6_setBox m bc b x y = (kx, 0, u)) D cy ad L sz) RX6 (by decide +kernel) rfl (Nat.le_of_ble_eq_true rfl) ?_
  intro p e s mi below meth c ls C E9 hnt hr hlocks hml hl H locs hw
  obtain ⟨hx, hb, hts, hown, hK, hNw⟩ := id C
  have hl : lv_has ls 6 [(0, .ref (ad (0, 0, 0))), (1, .int b), (2, .int x), (3, .int y)] := hl
  obtain ⟨hbc, lbc, hbx, ⟨f, hf, lf⟩, hhr, lhr⟩ := id G
  refine lv_aload_n hx hb dX6_setBox_0 rfl (lv_at hl 0 rfl) ?_
  refine lv_iload_n hx hb dX6_setBox_1 rfl (lv_at hl 1 rfl) ?_
  refine zxa_r C hnt hlocks hw (zrunVx (rest := []) C E9 hml hl.1 hw (zn0 hL) rfl rfl (c_X6_boxNumbered l hst D cy ad m H.size hL hbc lbc b) zv_X6_49 rfl rfl rfl ⟨Nat.le_of_ble_eq_true rfl, Nat.le_of_ble_eq_true rfl⟩ rfl (Nat.le_of_ble_eq_true rfl) dX6_setBox_2 ⟨Nat.le_of_ble_eq_true rfl, Nat.le_of_ble_eq_true rfl⟩) ⟨Nat.le_of_ble_eq_true rfl, Nat.le_of_ble_eq_true rfl⟩ (fun E u h => by obtain ⟨k9, hk9, he9, hc9, rfl⟩ := h; subst hc9; exact ⟨_, hk9, he9, if_neg hk9⟩) (fun r3 m2 H locs h1 hw => ?_)
  obtain ⟨er3, kh1, h1⟩ := h1
  rw [h1] at hw
  clear h1 m2
  subst er3
  obtain ⟨ub, lb⟩ := q6_bn_ok (by omega) kh1
  obtain ⟨hcn, lcn, -, -⟩ := hbx b.toNatClampNeg (by omega)
  refine lv_astore (lv' := [(4, .ref (ad (4, 0, b.toNatClampNeg))), (0, .ref (ad (0, 0, 0))), (1, .int b), (2, .int x), (3, .int y)]) hx hb dX6_setBox_5 hl (by decide) rfl (fun ls hl => ?_)
  refine lv_iload_n hx hb dX6_setBox_7 rfl (lv_at hl 3 rfl) ?_
  refine lv_if_lt (tgt := 18) hx hb dX6_setBox_8 (by decide) (fun c8_4 => ?_) (fun c8_4 => ?_)
  · skip
    exact zthrow hst C E9 hnt (hl.1.trans hml.symm) hlocks hw (k := 2) (by decide) rfl rfl zTx_79 dX6_setBox_18 dX6_setBox_21 dX6_setBox_22 dX6_setBox_24 dX6_setBox_27 ⟨Nat.le_of_ble_eq_true rfl, Nat.le_of_ble_eq_true rfl, Nat.le_of_ble_eq_true rfl, Nat.le_of_ble_eq_true rfl⟩ ⟨Nat.le_of_ble_eq_true rfl, Nat.le_of_ble_eq_true rfl⟩ ⟨2, by decide, rfl, (if_pos kh1).trans (if_pos c8_4)⟩
  · skip
    refine lv_iload_n hx hb dX6_setBox_11 rfl (lv_at hl 3 rfl) ?_
    refine lv_sipush (v := 300) hx hb dX6_setBox_12 (by decide) ?_
    refine lv_icmp_le (tgt := 28) hx hb dX6_setBox_15 (by decide) (fun c15_5 => ?_) (fun c15_5 => ?_)
    · skip
      refine lv_iload_n hx hb dX6_setBox_28 rfl (lv_at hl 4 rfl) ?_
      refine lv_if_lt (tgt := 37) hx hb dX6_setBox_29 (by decide) (fun c29_6 => ?_) (fun c29_6 => ?_)
      · skip
        exact zthrow hst C E9 hnt (hl.1.trans hml.symm) hlocks hw (k := 2) (by decide) rfl rfl zTx_81 dX6_setBox_37 dX6_setBox_40 dX6_setBox_41 dX6_setBox_43 dX6_setBox_46 ⟨Nat.le_of_ble_eq_true rfl, Nat.le_of_ble_eq_true rfl, Nat.le_of_ble_eq_true rfl, Nat.le_of_ble_eq_true rfl⟩ ⟨Nat.le_of_ble_eq_true rfl, Nat.le_of_ble_eq_true rfl⟩ ⟨2, by decide, rfl, (if_pos kh1).trans ((if_neg c8_4).trans ((if_pos c15_5).trans (if_pos c29_6)))⟩
      · skip
        refine lv_iload_n hx hb dX6_setBox_32 rfl (lv_at hl 4 rfl) ?_
        refine lv_iconst (v := 3) hx hb dX6_setBox_33 (by decide) ?_
        refine lv_icmp_lt (tgt := 47) hx hb dX6_setBox_34 (by decide) (fun c34_7 => ?_) (fun c34_7 => ?_)
        · skip
          refine lv_aload hx hb dX6_setBox_47 (lv_at hl 0 rfl) ?_
          refine zg_X6_83 C hw (zn4 hL (by decide) (by omega)) dX6_setBox_49 ?_
          refine lv_topi (fun x8 ex8 => ?_)
          refine lv_istore (lv' := [(5, .int x8), (4, .ref (ad (4, 0, b.toNatClampNeg))), (0, .ref (ad (0, 0, 0))), (1, .int b), (2, .int x), (3, .int y)]) hx hb dX6_setBox_52 hl (by decide) rfl (fun ls hl => ?_)
          refine lv_aload hx hb dX6_setBox_54 (lv_at hl 1 rfl) ?_
          refine lv_iload_n hx hb dX6_setBox_56 rfl (lv_at hl 4 rfl) ?_
          refine zp_X6_83 C hw (zn4 hL (by decide) (by omega)) dX6_setBox_57 (fun H locs m9 em9 hw => ?_)
          refine lv_aload hx hb dX6_setBox_60 (lv_at hl 1 rfl) ?_
          refine lv_iload_n hx hb dX6_setBox_62 rfl (lv_at hl 5 rfl) ?_
          refine zp_X6_86 C hw (zn4 hL (by decide) (by omega)) dX6_setBox_63 (fun H locs m10 em10 hw => ?_)
          refine lv_iload hx hb dX6_setBox_66 (lv_at hl 0 rfl) ?_
          refine W.widen (k := 2) (n := 12) (by omega) (by omega) ?_
          refine vx_ret ?_
          exact zret_i C hr hlocks hw dX6_setBox_68 (by subst_vars; exact (if_pos kh1).trans ((if_neg c8_4).trans ((if_pos c15_5).trans ((if_neg c29_6).trans (if_pos c34_7)))))
        · skip
          exact zthrow hst C E9 hnt (hl.1.trans hml.symm) hlocks hw (k := 2) (by decide) rfl rfl zTx_81 dX6_setBox_37 dX6_setBox_40 dX6_setBox_41 dX6_setBox_43 dX6_setBox_46 ⟨Nat.le_of_ble_eq_true rfl, Nat.le_of_ble_eq_true rfl, Nat.le_of_ble_eq_true rfl, Nat.le_of_ble_eq_true rfl⟩ ⟨Nat.le_of_ble_eq_true rfl, Nat.le_of_ble_eq_true rfl⟩ ⟨2, by decide, rfl, (if_pos kh1).trans ((if_neg c8_4).trans ((if_pos c15_5).trans ((if_neg c29_6).trans (if_neg c34_7))))⟩
    · skip
      exact zthrow hst C E9 hnt (hl.1.trans hml.symm) hlocks hw (k := 2) (by decide) rfl rfl zTx_79 dX6_setBox_18 dX6_setBox_21 dX6_setBox_22 dX6_setBox_24 dX6_setBox_27 ⟨Nat.le_of_ble_eq_true rfl, Nat.le_of_ble_eq_true rfl, Nat.le_of_ble_eq_true rfl, Nat.le_of_ble_eq_true rfl⟩ ⟨Nat.le_of_ble_eq_true rfl, Nat.le_of_ble_eq_true rfl⟩ ⟨2, by decide, rfl, (if_pos kh1).trans ((if_neg c8_4).trans (if_neg c15_5))⟩

set_option maxHeartbeats 4000000 in
set_option maxRecDepth 100000 in
theorem c_X6_box (l : Launch) (hst : l.stackTraces = false) (D : va_G) (cy : Nat → ClassId) (ad : ZN → Nat) (m : ZM) (sz : Nat) {L : List ZN} (hL : zL L) {bc : Nat} {sc bu : Nat → Nat} {hq : Nat} (G : gW m 0 bc sc bu hq) (b k : Int32) : vx_Met l yX6_box (zws yX6_box cX6_box 4 (some .int)) ({ frames := 7, cells := 2, slots := 12, locals := 121 } : Room) (zPx D cy ad L m sz [.ref (ad (0, 0, 0)), .int b, .int k]) (zQi (fun r m1 => q6_box m bc sc b k = (0, r, m1)) D cy ad L sz) (zXc (fun E u => ∃ kx, kx ≠ 0 ∧ E = zEn kx ∧ q6_box m bc sc b k = (kx, 0, u)) D cy ad L sz) 2 12 (zA ad L sz) := by
  refine zXopen (Qc := fun sz => zQi (fun r m1 => q6_box m bc sc b k = (0, r, m1)) D cy ad L sz) (XC := fun sz => zXc (fun E u => ∃ kx, kx ≠ 0 ∧ E = zEn kx ∧ q6_box m bc sc b k = (kx, 0, u)) D cy ad L sz) RX6 (by decide +kernel) rfl (Nat.le_of_ble_eq_true rfl) ?_
  intro p e s mi below meth c ls C E9 hnt hr hlocks hml hl H locs hw
  obtain ⟨hx, hb, hts, hown, hK, hNw⟩ := id C
  have hl : lv_has ls 4 [(0, .ref (ad (0, 0, 0))), (1, .int b), (2, .int k)] := hl
  obtain ⟨hbc, lbc, hbx, ⟨f, hf, lf⟩, hhr, lhr⟩ := id G
  refine lv_aload_n hx hb dX6_box_0 rfl (lv_at hl 0 rfl) ?_
  refine lv_iload_n hx hb dX6_box_1 rfl (lv_at hl 1 rfl) ?_
  refine zxa_r C hnt hlocks hw (zrunVx (rest := []) C E9 hml hl.1 hw (zn0 hL) rfl rfl (c_X6_boxNumbered l hst D cy ad m H.size hL hbc lbc b) zv_X6_49 rfl rfl rfl ⟨Nat.le_of_ble_eq_true rfl, Nat.le_of_ble_eq_true rfl⟩ rfl (Nat.le_of_ble_eq_true rfl) dX6_box_2 ⟨Nat.le_of_ble_eq_true rfl, Nat.le_of_ble_eq_true rfl⟩) ⟨Nat.le_of_ble_eq_true rfl, Nat.le_of_ble_eq_true rfl⟩ (fun E u h => by obtain ⟨k9, hk9, he9, hc9, rfl⟩ := h; subst hc9; exact ⟨_, hk9, he9, if_neg hk9⟩) (fun r3 m2 H locs h1 hw => ?_)
  obtain ⟨er3, kh1, h1⟩ := h1
  rw [h1] at hw
  clear h1 m2
  subst er3
  obtain ⟨ub, lb⟩ := q6_bn_ok (by omega) kh1
  obtain ⟨hcn, lcn, -, -⟩ := hbx b.toNatClampNeg (by omega)
  refine lv_astore_n (lv' := [(3, .ref (ad (4, 0, b.toNatClampNeg))), (0, .ref (ad (0, 0, 0))), (1, .int b), (2, .int k)]) hx hb dX6_box_5 rfl hl (by decide) rfl (fun ls hl => ?_)
  refine lv_iload_n hx hb dX6_box_6 rfl (lv_at hl 3 rfl) ?_
  refine lv_if_lt (tgt := 16) hx hb dX6_box_7 (by decide) (fun c7_4 => ?_) (fun c7_4 => ?_)
  · skip
    exact zthrow hst C E9 hnt (hl.1.trans hml.symm) hlocks hw (k := 1) (by decide) rfl rfl zTx_89 dX6_box_16 dX6_box_19 dX6_box_20 dX6_box_22 dX6_box_25 ⟨Nat.le_of_ble_eq_true rfl, Nat.le_of_ble_eq_true rfl, Nat.le_of_ble_eq_true rfl, Nat.le_of_ble_eq_true rfl⟩ ⟨Nat.le_of_ble_eq_true rfl, Nat.le_of_ble_eq_true rfl⟩ ⟨1, by decide, rfl, (if_pos kh1).trans (if_pos c7_4)⟩
  · skip
    refine lv_iload_n hx hb dX6_box_10 rfl (lv_at hl 3 rfl) ?_
    refine lv_bipush (v := 12) hx hb dX6_box_11 (by decide) ?_
    refine lv_icmp_lt (tgt := 26) hx hb dX6_box_13 (by decide) (fun c13_5 => ?_) (fun c13_5 => ?_)
    · skip
      refine lv_aload_n hx hb dX6_box_26 rfl (lv_at hl 0 rfl) ?_
      refine lv_iload_n hx hb dX6_box_27 rfl (lv_at hl 3 rfl) ?_
      refine zafter_i C hw (zrunV (rest := []) C hml hl.1 hw (zn4 hL (by decide) (by omega)) rfl rfl (c_X0_tellOfBox l D cy ad m H.size hL (by decide) (by omega) hcn lcn k) zv_X6_91 rfl rfl rfl ⟨Nat.le_of_ble_eq_true rfl, Nat.le_of_ble_eq_true rfl⟩ rfl (Nat.le_of_ble_eq_true rfl) dX6_box_28 ⟨Nat.le_of_ble_eq_true rfl, Nat.le_of_ble_eq_true rfl⟩) (fun r8 m7 H locs h6 hw => ?_)
      obtain ⟨er8, h6⟩ := h6
      rw [h6] at hw
      clear h6 m7
      refine W.widen (k := 2) (n := 12) (by omega) (by omega) ?_
      refine vx_ret ?_
      exact zret_i C hr hlocks hw dX6_box_31 (by subst_vars; exact (if_pos kh1).trans ((if_neg c7_4).trans (if_pos c13_5)))
    · skip
      exact zthrow hst C E9 hnt (hl.1.trans hml.symm) hlocks hw (k := 1) (by decide) rfl rfl zTx_89 dX6_box_16 dX6_box_19 dX6_box_20 dX6_box_22 dX6_box_25 ⟨Nat.le_of_ble_eq_true rfl, Nat.le_of_ble_eq_true rfl, Nat.le_of_ble_eq_true rfl, Nat.le_of_ble_eq_true rfl⟩ ⟨Nat.le_of_ble_eq_true rfl, Nat.le_of_ble_eq_true rfl⟩ ⟨1, by decide, rfl, (if_pos kh1).trans ((if_neg c7_4).trans (if_neg c13_5))⟩

set_option maxHeartbeats 4000000 in
set_option maxRecDepth 100000 in
theorem c_X6_bring (l : Launch) (hst : l.stackTraces = false) (D : va_G) (cy : Nat → ClassId) (ad : ZN → Nat) (m : ZM) (sz : Nat) {L : List ZN} (hL : zL L) {fq hn : Nat} (hfq : m (8, 0, 0) 1 = nI fq) (lfq : fq < 30) (hhn : m (8, 0, 0) 2 = nI hn) (lhn : hn ≤ 30) (x y z : Int32) : vx_Met l yX6_bring (zws yX6_bring cX6_bring 5 (some .int)) ({ frames := 7, cells := 2, slots := 12, locals := 120 } : Room) (zPx D cy ad L m sz [.ref (ad (0, 0, 0)), .int x, .int y, .int z]) (zQi (fun r m1 => q6_bring m fq hn x y z = (0, r, m1)) D cy ad L sz) (zXc (fun E u => ∃ kx, kx ≠ 0 ∧ E = zEn kx ∧ q6_bring m fq hn x y z = (kx, 0, u)) D cy ad L sz) 2 12 (zA ad L sz) := by
  refine zXopen (Qc := fun sz => zQi (fun r m1 => q6_bring m fq hn x y z = (0, r, m1)) D cy ad L sz) (XC := fun sz => zXc (fun E u => ∃ kx, kx ≠ 0 ∧ E = zEn kx ∧ q6_bring m fq hn x y z = (kx, 0, u)) D cy ad L sz) RX6 (by decide +kernel) rfl (Nat.le_of_ble_eq_true rfl) ?_
  intro p e s mi below meth c ls C E9 hnt hr hlocks hml hl H locs hw
  obtain ⟨hx, hb, hts, hown, hK, hNw⟩ := id C
  have hl : lv_has ls 5 [(0, .ref (ad (0, 0, 0))), (1, .int x), (2, .int y), (3, .int z)] := hl
  refine lv_iload_n hx hb dX6_bring_0 rfl (lv_at hl 1 rfl) ?_
  refine lv_iconst (v := 1) hx hb dX6_bring_1 (by decide) ?_
  refine lv_icmp_lt (tgt := 12) hx hb dX6_bring_2 (by decide) (fun c2_1 => ?_) (fun c2_1 => ?_)
  · skip
    exact zthrow hst C E9 hnt (hl.1.trans hml.symm) hlocks hw (k := 2) (by decide) rfl rfl zTx_95 dX6_bring_12 dX6_bring_15 dX6_bring_16 dX6_bring_18 dX6_bring_21 ⟨Nat.le_of_ble_eq_true rfl, Nat.le_of_ble_eq_true rfl, Nat.le_of_ble_eq_true rfl, Nat.le_of_ble_eq_true rfl⟩ ⟨Nat.le_of_ble_eq_true rfl, Nat.le_of_ble_eq_true rfl⟩ ⟨2, by decide, rfl, if_pos c2_1⟩
  · skip
    refine lv_iload_n hx hb dX6_bring_5 rfl (lv_at hl 1 rfl) ?_
    refine lv_sipush (v := 5000) hx hb dX6_bring_6 (by decide) ?_
    refine lv_icmp_le (tgt := 22) hx hb dX6_bring_9 (by decide) (fun c9_2 => ?_) (fun c9_2 => ?_)
    · skip
      refine lv_iload_n hx hb dX6_bring_22 rfl (lv_at hl 2 rfl) ?_
      refine lv_if_lt (tgt := 33) hx hb dX6_bring_23 (by decide) (fun c23_3 => ?_) (fun c23_3 => ?_)
      · skip
        exact zthrow hst C E9 hnt (hl.1.trans hml.symm) hlocks hw (k := 2) (by decide) rfl rfl zTx_97 dX6_bring_33 dX6_bring_36 dX6_bring_37 dX6_bring_39 dX6_bring_42 ⟨Nat.le_of_ble_eq_true rfl, Nat.le_of_ble_eq_true rfl, Nat.le_of_ble_eq_true rfl, Nat.le_of_ble_eq_true rfl⟩ ⟨Nat.le_of_ble_eq_true rfl, Nat.le_of_ble_eq_true rfl⟩ ⟨2, by decide, rfl, (if_neg c2_1).trans ((if_pos c9_2).trans (if_pos c23_3))⟩
      · skip
        refine lv_iload_n hx hb dX6_bring_26 rfl (lv_at hl 2 rfl) ?_
        refine lv_sipush (v := 1000) hx hb dX6_bring_27 (by decide) ?_
        refine lv_icmp_le (tgt := 43) hx hb dX6_bring_30 (by decide) (fun c30_4 => ?_) (fun c30_4 => ?_)
        · skip
          refine lv_iload_n hx hb dX6_bring_43 rfl (lv_at hl 3 rfl) ?_
          refine lv_iconst (v := 1) hx hb dX6_bring_44 (by decide) ?_
          refine lv_icmp_lt (tgt := 54) hx hb dX6_bring_45 (by decide) (fun c45_5 => ?_) (fun c45_5 => ?_)
          · skip
            exact zthrow hst C E9 hnt (hl.1.trans hml.symm) hlocks hw (k := 2) (by decide) rfl rfl zTx_99 dX6_bring_54 dX6_bring_57 dX6_bring_58 dX6_bring_60 dX6_bring_63 ⟨Nat.le_of_ble_eq_true rfl, Nat.le_of_ble_eq_true rfl, Nat.le_of_ble_eq_true rfl, Nat.le_of_ble_eq_true rfl⟩ ⟨Nat.le_of_ble_eq_true rfl, Nat.le_of_ble_eq_true rfl⟩ ⟨2, by decide, rfl, (if_neg c2_1).trans ((if_pos c9_2).trans ((if_neg c23_3).trans ((if_pos c30_4).trans (if_pos c45_5))))⟩
          · skip
            refine lv_iload_n hx hb dX6_bring_48 rfl (lv_at hl 3 rfl) ?_
            refine lv_bipush (v := 9) hx hb dX6_bring_49 (by decide) ?_
            refine lv_icmp_le (tgt := 64) hx hb dX6_bring_51 (by decide) (fun c51_6 => ?_) (fun c51_6 => ?_)
            · skip
              refine lv_aload_n hx hb dX6_bring_64 rfl (lv_at hl 0 rfl) ?_
              refine zxa_v C hnt hlocks hw (zrunVx (rest := []) C E9 hml hl.1 hw (zn0 hL) rfl rfl (c_X6_refuseFullHopper l hst D cy ad m H.size hL hhn lhn) zv_X6_101 rfl rfl rfl ⟨Nat.le_of_ble_eq_true rfl, Nat.le_of_ble_eq_true rfl⟩ rfl (Nat.le_of_ble_eq_true rfl) dX6_bring_65 ⟨Nat.le_of_ble_eq_true rfl, Nat.le_of_ble_eq_true rfl⟩) ⟨Nat.le_of_ble_eq_true rfl, Nat.le_of_ble_eq_true rfl⟩ (fun E u h => by obtain ⟨k9, hk9, he9, hc9, rfl⟩ := h; subst hc9; exact ⟨_, hk9, he9, (if_neg c2_1).trans ((if_pos c9_2).trans ((if_neg c23_3).trans ((if_pos c30_4).trans ((if_neg c45_5).trans ((if_pos c51_6).trans (if_neg hk9))))))⟩) (fun m8 H locs h7 hw => ?_)
              obtain ⟨kh7, h7⟩ := h7
              rw [h7] at hw
              clear h7 m8
              refine lv_iload_n hx hb dX6_bring_68 rfl (lv_at hl 1 rfl) ?_
              refine lv_iload_n hx hb dX6_bring_69 rfl (lv_at hl 2 rfl) ?_
              refine lv_imul hx hb dX6_bring_70 ?_
              refine lv_sipush (v := 1000) hx hb dX6_bring_71 (by decide) ?_
              refine lv_idiv hx hb dX6_bring_74 (by decide) ?_
              refine lv_topi (fun x10 ex10 => ?_)
              refine lv_istore (lv' := [(4, .int x10), (0, .ref (ad (0, 0, 0))), (1, .int x), (2, .int y), (3, .int z)]) hx hb dX6_bring_75 hl (by decide) rfl (fun ls hl => ?_)
              refine lv_aload_n hx hb dX6_bring_77 rfl (lv_at hl 1 rfl) ?_
              refine zg_X6_10 C hw (zn0 hL) dX6_bring_78 ?_
              refine zg_X6_104 C hw (zn1 hL (by decide)) dX6_bring_81 ?_
              refine lv_iload_n hx hb dX6_bring_84 rfl (lv_at hl 2 rfl) ?_
              refine lv_iload hx hb dX6_bring_85 (lv_at hl 0 rfl) ?_
              refine lv_isub hx hb dX6_bring_87 ?_
              refine lv_iload hx hb dX6_bring_88 (lv_at hl 0 rfl) ?_
              refine lv_iload_n hx hb dX6_bring_90 rfl (lv_at hl 4 rfl) ?_
              refine zafter_v C hw (zrunV (rest := []) C hml hl.1 hw (zn8 hL (by decide)) rfl rfl (c_X1_addLot l D cy ad m H.size hL (by decide) hfq lfq hhn lhn (x - x10) x10 z) zv_X6_108 rfl rfl rfl ⟨Nat.le_of_ble_eq_true rfl, Nat.le_of_ble_eq_true rfl⟩ rfl (Nat.le_of_ble_eq_true rfl) dX6_bring_91 ⟨Nat.le_of_ble_eq_true rfl, Nat.le_of_ble_eq_true rfl⟩) (fun m12 H locs h11 hw => ?_)
              have em12 := h11
              refine lv_aload_n hx hb dX6_bring_94 rfl (lv_at hl 1 rfl) ?_
              refine zg_X6_10 C hw (zn0 hL) dX6_bring_95 ?_
              refine zg_X6_104 C hw (zn1 hL (by decide)) dX6_bring_98 ?_
              refine zg_X6_114 C hw (zn8 hL (by decide)) dX6_bring_101 ?_
              refine W.widen (k := 2) (n := 12) (by omega) (by omega) ?_
              refine vx_ret ?_
              exact zret_i C hr hlocks hw dX6_bring_104 (by subst_vars; exact (if_neg c2_1).trans ((if_pos c9_2).trans ((if_neg c23_3).trans ((if_pos c30_4).trans ((if_neg c45_5).trans ((if_pos c51_6).trans (if_pos kh7)))))))
            · skip
              exact zthrow hst C E9 hnt (hl.1.trans hml.symm) hlocks hw (k := 2) (by decide) rfl rfl zTx_99 dX6_bring_54 dX6_bring_57 dX6_bring_58 dX6_bring_60 dX6_bring_63 ⟨Nat.le_of_ble_eq_true rfl, Nat.le_of_ble_eq_true rfl, Nat.le_of_ble_eq_true rfl, Nat.le_of_ble_eq_true rfl⟩ ⟨Nat.le_of_ble_eq_true rfl, Nat.le_of_ble_eq_true rfl⟩ ⟨2, by decide, rfl, (if_neg c2_1).trans ((if_pos c9_2).trans ((if_neg c23_3).trans ((if_pos c30_4).trans ((if_neg c45_5).trans (if_neg c51_6)))))⟩
        · skip
          exact zthrow hst C E9 hnt (hl.1.trans hml.symm) hlocks hw (k := 2) (by decide) rfl rfl zTx_97 dX6_bring_33 dX6_bring_36 dX6_bring_37 dX6_bring_39 dX6_bring_42 ⟨Nat.le_of_ble_eq_true rfl, Nat.le_of_ble_eq_true rfl, Nat.le_of_ble_eq_true rfl, Nat.le_of_ble_eq_true rfl⟩ ⟨Nat.le_of_ble_eq_true rfl, Nat.le_of_ble_eq_true rfl⟩ ⟨2, by decide, rfl, (if_neg c2_1).trans ((if_pos c9_2).trans ((if_neg c23_3).trans (if_neg c30_4)))⟩
    · skip
      exact zthrow hst C E9 hnt (hl.1.trans hml.symm) hlocks hw (k := 2) (by decide) rfl rfl zTx_95 dX6_bring_12 dX6_bring_15 dX6_bring_16 dX6_bring_18 dX6_bring_21 ⟨Nat.le_of_ble_eq_true rfl, Nat.le_of_ble_eq_true rfl, Nat.le_of_ble_eq_true rfl, Nat.le_of_ble_eq_true rfl⟩ ⟨Nat.le_of_ble_eq_true rfl, Nat.le_of_ble_eq_true rfl⟩ ⟨2, by decide, rfl, (if_neg c2_1).trans (if_neg c9_2)⟩

set_option maxHeartbeats 4000000 in
set_option maxRecDepth 100000 in
theorem c_X6_lot (l : Launch) (hst : l.stackTraces = false) (D : va_G) (cy : Nat → ClassId) (ad : ZN → Nat) (m : ZM) (sz : Nat) {L : List ZN} (hL : zL L) {fq hn : Nat} (hfq : m (8, 0, 0) 1 = nI fq) (lfq : fq < 30) (hhn : m (8, 0, 0) 2 = nI hn) (lhn : hn ≤ 30) (i k : Int32) : vx_Met l yX6_lot (zws yX6_lot cX6_lot 3 (some .int)) ({ frames := 6, cells := 1, slots := 6, locals := 100 } : Room) (zPx D cy ad L m sz [.ref (ad (0, 0, 0)), .int i, .int k]) (zQi (fun r m1 => q6_lot m fq hn i k = (0, r, m1)) D cy ad L sz) (zXc (fun E u => ∃ kx, kx ≠ 0 ∧ E = zEn kx ∧ q6_lot m fq hn i k = (kx, 0, u)) D cy ad L sz) 1 6 (zA ad L sz) := by
  refine zXopen (Qc := fun sz => zQi (fun r m1 => q6_lot m fq hn i k = (0, r, m1)) D cy ad L sz) (XC := fun sz => zXc (fun E u => ∃ kx, kx ≠ 0 ∧ E = zEn kx ∧ q6_lot m fq hn i k = (kx, 0, u)) D cy ad L sz) RX6 (by decide +kernel) rfl (Nat.le_of_ble_eq_true rfl) ?_
  intro p e s mi below meth c ls C E9 hnt hr hlocks hml hl H locs hw
  obtain ⟨hx, hb, hts, hown, hK, hNw⟩ := id C
  have hl : lv_has ls 3 [(0, .ref (ad (0, 0, 0))), (1, .int i), (2, .int k)] := hl
  refine lv_iload_n hx hb dX6_lot_0 rfl (lv_at hl 1 rfl) ?_
  refine lv_if_lt (tgt := 18) hx hb dX6_lot_1 (by decide) (fun c1_1 => ?_) (fun c1_1 => ?_)
  · skip
    exact zthrow hst C E9 hnt (hl.1.trans hml.symm) hlocks hw (k := 1) (by decide) rfl rfl zTx_117 dX6_lot_18 dX6_lot_21 dX6_lot_22 dX6_lot_24 dX6_lot_27 ⟨Nat.le_of_ble_eq_true rfl, Nat.le_of_ble_eq_true rfl, Nat.le_of_ble_eq_true rfl, Nat.le_of_ble_eq_true rfl⟩ ⟨Nat.le_of_ble_eq_true rfl, Nat.le_of_ble_eq_true rfl⟩ ⟨1, by decide, rfl, if_pos c1_1⟩
  · skip
    refine lv_iload_n hx hb dX6_lot_4 rfl (lv_at hl 1 rfl) ?_
    refine lv_aload_n hx hb dX6_lot_5 rfl (lv_at hl 0 rfl) ?_
    refine zg_X6_10 C hw (zn0 hL) dX6_lot_6 ?_
    refine zg_X6_104 C hw (zn1 hL (by decide)) dX6_lot_9 ?_
    refine zg_X6_114 C hw (zn8 hL (by decide)) dX6_lot_12 ?_
    refine ztop hhn ?_
    refine lv_icmp_lt (tgt := 28) hx hb dX6_lot_15 (by decide) (fun c15_2 => ?_) (fun c15_2 => ?_)
    · skip
      obtain ⟨ui, li⟩ := zx_nat (n := hn) (by omega) c1_1 c15_2
      refine lv_iload_n hx hb dX6_lot_28 rfl (lv_at hl 2 rfl) ?_
      refine lv_if_lt (tgt := 37) hx hb dX6_lot_29 (by decide) (fun c29_3 => ?_) (fun c29_3 => ?_)
      · skip
        exact zthrow hst C E9 hnt (hl.1.trans hml.symm) hlocks hw (k := 1) (by decide) rfl rfl zTx_119 dX6_lot_37 dX6_lot_40 dX6_lot_41 dX6_lot_43 dX6_lot_46 ⟨Nat.le_of_ble_eq_true rfl, Nat.le_of_ble_eq_true rfl, Nat.le_of_ble_eq_true rfl, Nat.le_of_ble_eq_true rfl⟩ ⟨Nat.le_of_ble_eq_true rfl, Nat.le_of_ble_eq_true rfl⟩ ⟨1, by decide, rfl, (if_neg c1_1).trans ((if_pos c15_2).trans (if_pos c29_3))⟩
      · skip
        refine lv_iload_n hx hb dX6_lot_32 rfl (lv_at hl 2 rfl) ?_
        refine lv_iconst (v := 3) hx hb dX6_lot_33 (by decide) ?_
        refine lv_icmp_lt (tgt := 47) hx hb dX6_lot_34 (by decide) (fun c34_4 => ?_) (fun c34_4 => ?_)
        · skip
          refine lv_aload_n hx hb dX6_lot_47 rfl (lv_at hl 0 rfl) ?_
          refine zg_X6_10 C hw (zn0 hL) dX6_lot_48 ?_
          refine zg_X6_104 C hw (zn1 hL (by decide)) dX6_lot_51 ?_
          refine lv_iload_n hx hb dX6_lot_54 rfl (lv_at hl 1 rfl) ?_
          refine W.eq (congrArg (fun z : Int32 => F0 mi 55 ls [.int z, .ref (ad (8, 0, 0))]) (show i = nI i.toNatClampNeg from ui)) ?_
          refine zafter_r C hw (zrunV (rest := []) C hml hl.1 hw (zn8 hL (by decide)) rfl rfl (c_X1_lotAt l D cy ad m H.size hL (by decide) hfq lfq i.toNatClampNeg (by omega)) zv_X6_121 rfl rfl rfl ⟨Nat.le_of_ble_eq_true rfl, Nat.le_of_ble_eq_true rfl⟩ rfl (Nat.le_of_ble_eq_true rfl) dX6_lot_55 ⟨Nat.zero_le _, Nat.zero_le _⟩) (fun r7 m6 H locs h5 hw => ?_)
          obtain ⟨er7, h5⟩ := h5
          rw [h5] at hw
          clear h5 m6
          subst er7
          refine lv_iload_n hx hb dX6_lot_58 rfl (lv_at hl 2 rfl) ?_
          refine zafter_i C hw (zrunV (rest := []) C hml hl.1 hw (zn10 hL (by decide) (Nat.mod_lt _ (by decide))) rfl rfl (c_X2_tellOfLot l D cy ad m H.size hL (by decide) (Nat.mod_lt _ (by decide)) k) zv_X6_125 rfl rfl rfl ⟨Nat.le_of_ble_eq_true rfl, Nat.le_of_ble_eq_true rfl⟩ rfl (Nat.le_of_ble_eq_true rfl) dX6_lot_59 ⟨Nat.zero_le _, Nat.zero_le _⟩) (fun r10 m9 H locs h8 hw => ?_)
          obtain ⟨er10, h8⟩ := h8
          rw [h8] at hw
          clear h8 m9
          refine W.widen (k := 1) (n := 6) (by omega) (by omega) ?_
          refine vx_ret ?_
          exact zret_i C hr hlocks hw dX6_lot_62 (by subst_vars; exact (if_neg c1_1).trans ((if_pos c15_2).trans ((if_neg c29_3).trans (if_pos c34_4))))
        · skip
          exact zthrow hst C E9 hnt (hl.1.trans hml.symm) hlocks hw (k := 1) (by decide) rfl rfl zTx_119 dX6_lot_37 dX6_lot_40 dX6_lot_41 dX6_lot_43 dX6_lot_46 ⟨Nat.le_of_ble_eq_true rfl, Nat.le_of_ble_eq_true rfl, Nat.le_of_ble_eq_true rfl, Nat.le_of_ble_eq_true rfl⟩ ⟨Nat.le_of_ble_eq_true rfl, Nat.le_of_ble_eq_true rfl⟩ ⟨1, by decide, rfl, (if_neg c1_1).trans ((if_pos c15_2).trans ((if_neg c29_3).trans (if_neg c34_4)))⟩
    · skip
      exact zthrow hst C E9 hnt (hl.1.trans hml.symm) hlocks hw (k := 1) (by decide) rfl rfl zTx_117 dX6_lot_18 dX6_lot_21 dX6_lot_22 dX6_lot_24 dX6_lot_27 ⟨Nat.le_of_ble_eq_true rfl, Nat.le_of_ble_eq_true rfl, Nat.le_of_ble_eq_true rfl, Nat.le_of_ble_eq_true rfl⟩ ⟨Nat.le_of_ble_eq_true rfl, Nat.le_of_ble_eq_true rfl⟩ ⟨1, by decide, rfl, (if_neg c1_1).trans (if_neg c15_2)⟩

set_option maxHeartbeats 4000000 in
set_option maxRecDepth 100000 in
theorem c_X6_run (l : Launch) (hst : l.stackTraces = false) (D : va_G) (cy : Nat → ClassId) (ad : ZN → Nat) (m : ZM) (sz : Nat) {L : List ZN} (hL : zL L) {bc : Nat} {sc bu : Nat → Nat} {hq : Nat} (G : gW m 0 bc sc bu hq) (lq : hq ≤ 5000) (h : Int32) : vx_Met l yX6_run (zws yX6_run cX6_run 2 (some .int)) ({ frames := 7, cells := 2, slots := 12, locals := 142 } : Room) (zPx D cy ad L m sz [.ref (ad (0, 0, 0)), .int h]) (zQi (fun r m1 => q6_run m bc sc bu hq h = (0, r, m1)) D cy ad L sz) (zXc (fun E u => ∃ kx, kx ≠ 0 ∧ E = zEn kx ∧ q6_run m bc sc bu hq h = (kx, 0, u)) D cy ad L sz) 2 12 (zA ad L sz) := by
  refine zXopen (Qc := fun sz => zQi (fun r m1 => q6_run m bc sc bu hq h = (0, r, m1)) D cy ad L sz) (XC := fun sz => zXc (fun E u => ∃ kx, kx ≠ 0 ∧ E = zEn kx ∧ q6_run m bc sc bu hq h = (kx, 0, u)) D cy ad L sz) RX6 (by decide +kernel) rfl (Nat.le_of_ble_eq_true rfl) ?_
  intro p e s mi below meth c ls C E9 hnt hr hlocks hml hl H locs hw
  obtain ⟨hx, hb, hts, hown, hK, hNw⟩ := id C
  have hl : lv_has ls 2 [(0, .ref (ad (0, 0, 0))), (1, .int h)] := hl
  obtain ⟨hbc, lbc, hbx, ⟨f, hf, lf⟩, hhr, lhr⟩ := id G
  refine lv_iload_n hx hb dX6_run_0 rfl (lv_at hl 1 rfl) ?_
  refine lv_bipush (v := 100) hx hb dX6_run_1 (by decide) ?_
  refine zxa_v C hnt hlocks hw (zrunSx (rest := []) C E9 hml hl.1 hw (c_X6_refuseHours l hst D cy ad m H.size h 100) zv_X6_130 rfl rfl rfl ⟨Nat.le_of_ble_eq_true rfl, Nat.le_of_ble_eq_true rfl⟩ rfl (Nat.le_of_ble_eq_true rfl) dX6_run_3 ⟨Nat.le_of_ble_eq_true rfl, Nat.le_of_ble_eq_true rfl⟩) ⟨Nat.le_of_ble_eq_true rfl, Nat.le_of_ble_eq_true rfl⟩ (fun E u h => by obtain ⟨k9, hk9, he9, hc9, rfl⟩ := h; subst hc9; exact ⟨_, hk9, he9, if_neg hk9⟩) (fun m2 H locs h1 hw => ?_)
  obtain ⟨kh1, h1⟩ := h1
  rw [h1] at hw
  clear h1 m2
  obtain ⟨uh, lh1, lh2⟩ := q6_rh_ok (n := 100) (by decide) kh1
  refine lv_aload_n hx hb dX6_run_6 rfl (lv_at hl 0 rfl) ?_
  refine lv_iload_n hx hb dX6_run_7 rfl (lv_at hl 1 rfl) ?_
  refine zxa_v C hnt hlocks hw (zrunVx (rest := []) C E9 hml hl.1 hw (zn0 hL) rfl rfl (c_X6_refuseLateHour l hst D cy ad m H.size hL h) zv_X6_133 rfl rfl rfl ⟨Nat.le_of_ble_eq_true rfl, Nat.le_of_ble_eq_true rfl⟩ rfl (Nat.le_of_ble_eq_true rfl) dX6_run_8 ⟨Nat.le_of_ble_eq_true rfl, Nat.le_of_ble_eq_true rfl⟩) ⟨Nat.le_of_ble_eq_true rfl, Nat.le_of_ble_eq_true rfl⟩ (fun E u h => by obtain ⟨k9, hk9, he9, hc9, rfl⟩ := h; subst hc9; exact ⟨_, hk9, he9, (if_pos kh1).trans (if_neg hk9)⟩) (fun m5 H locs h4 hw => ?_)
  obtain ⟨kh4, h4⟩ := h4
  rw [h4] at hw
  clear h4 m5
  refine lv_aload_n hx hb dX6_run_11 rfl (lv_at hl 0 rfl) ?_
  refine zg_X6_10 C hw (zn0 hL) dX6_run_12 ?_
  refine lv_iload_n hx hb dX6_run_15 rfl (lv_at hl 1 rfl) ?_
  refine W.eq (congrArg (fun z : Int32 => F0 mi 16 ls [.int z, .ref (ad (1, 0, 0))]) (show h = nI h.toNatClampNeg from uh)) ?_
  refine zafter_i C hw (zrunV (rest := []) C hml hl.1 hw (zn1 hL (by decide)) rfl rfl (c_X5_passHours l D cy ad m H.size hL (by decide) G h.toNatClampNeg (by omega) (by omega)) zv_X6_137 rfl rfl rfl ⟨Nat.le_of_ble_eq_true rfl, Nat.le_of_ble_eq_true rfl⟩ rfl (Nat.le_of_ble_eq_true rfl) dX6_run_16 ⟨Nat.le_of_ble_eq_true rfl, Nat.le_of_ble_eq_true rfl⟩) (fun r9 m8 H locs h7 hw => ?_)
  obtain ⟨er9, em8⟩ := h7
  refine W.widen (k := 2) (n := 12) (by omega) (by omega) ?_
  refine vx_ret ?_
  exact zret_i C hr hlocks hw dX6_run_19 (by subst_vars; exact (if_pos kh1).trans (if_pos kh4))

set_option maxHeartbeats 4000000 in
set_option maxRecDepth 100000 in
theorem c_X6_count (l : Launch) (hst : l.stackTraces = false) (D : va_G) (cy : Nat → ClassId) (ad : ZN → Nat) (m : ZM) (sz : Nat) {L : List ZN} (hL : zL L) {bc : Nat} {sc bu : Nat → Nat} {hq : Nat} (G : gW m 0 bc sc bu hq) {fq hn : Nat} (hfq : m (8, 0, 0) 1 = nI fq) (lfq : fq < 30) (hhn : m (8, 0, 0) 2 = nI hn) (lhn : hn ≤ 30) (k : Int32) : vx_Met l yX6_count (zws yX6_count cX6_count 2 (some .int)) ({ frames := 6, cells := 1, slots := 6, locals := 100 } : Room) (zPx D cy ad L m sz [.ref (ad (0, 0, 0)), .int k]) (zQi (fun r m1 => q6_count m bc sc fq hn k = (0, r, m1)) D cy ad L sz) (zXc (fun E u => ∃ kx, kx ≠ 0 ∧ E = zEn kx ∧ q6_count m bc sc fq hn k = (kx, 0, u)) D cy ad L sz) 1 6 (zA ad L sz) := by
  refine zXopen (Qc := fun sz => zQi (fun r m1 => q6_count m bc sc fq hn k = (0, r, m1)) D cy ad L sz) (XC := fun sz => zXc (fun E u => ∃ kx, kx ≠ 0 ∧ E = zEn kx ∧ q6_count m bc sc fq hn k = (kx, 0, u)) D cy ad L sz) RX6 (by decide +kernel) rfl (Nat.le_of_ble_eq_true rfl) ?_
  intro p e s mi below meth c ls C E9 hnt hr hlocks hml hl H locs hw
  obtain ⟨hx, hb, hts, hown, hK, hNw⟩ := id C
  have hl : lv_has ls 2 [(0, .ref (ad (0, 0, 0))), (1, .int k)] := hl
  obtain ⟨hbc, lbc, hbx, ⟨f, hf, lf⟩, hhr, lhr⟩ := id G
  refine lv_iload_n hx hb dX6_count_0 rfl (lv_at hl 1 rfl) ?_
  refine lv_if_lt (tgt := 10) hx hb dX6_count_1 (by decide) (fun c1_1 => ?_) (fun c1_1 => ?_)
  · skip
    exact zthrow hst C E9 hnt (hl.1.trans hml.symm) hlocks hw (k := 1) (by decide) rfl rfl zTx_140 dX6_count_10 dX6_count_13 dX6_count_14 dX6_count_16 dX6_count_19 ⟨Nat.le_of_ble_eq_true rfl, Nat.le_of_ble_eq_true rfl, Nat.le_of_ble_eq_true rfl, Nat.le_of_ble_eq_true rfl⟩ ⟨Nat.le_of_ble_eq_true rfl, Nat.le_of_ble_eq_true rfl⟩ ⟨1, by decide, rfl, if_pos c1_1⟩
  · skip
    refine lv_iload_n hx hb dX6_count_4 rfl (lv_at hl 1 rfl) ?_
    refine lv_bipush (v := 14) hx hb dX6_count_5 (by decide) ?_
    refine lv_icmp_lt (tgt := 20) hx hb dX6_count_7 (by decide) (fun c7_2 => ?_) (fun c7_2 => ?_)
    · skip
      refine lv_aload_n hx hb dX6_count_20 rfl (lv_at hl 0 rfl) ?_
      refine zg_X6_10 C hw (zn0 hL) dX6_count_21 ?_
      refine lv_iload_n hx hb dX6_count_24 rfl (lv_at hl 1 rfl) ?_
      refine zafter_i C hw (zrunV (rest := []) C hml hl.1 hw (zn1 hL (by decide)) rfl rfl (c_X5_tellOfWorks l D cy ad m H.size hL (by decide) G hfq lfq hhn lhn k) zv_X6_142 rfl rfl rfl ⟨Nat.le_of_ble_eq_true rfl, Nat.le_of_ble_eq_true rfl⟩ rfl (Nat.le_of_ble_eq_true rfl) dX6_count_25 ⟨Nat.zero_le _, Nat.zero_le _⟩) (fun r5 m4 H locs h3 hw => ?_)
      obtain ⟨er5, h3⟩ := h3
      rw [h3] at hw
      clear h3 m4
      refine W.widen (k := 1) (n := 6) (by omega) (by omega) ?_
      refine vx_ret ?_
      exact zret_i C hr hlocks hw dX6_count_28 (by subst_vars; exact (if_neg c1_1).trans (if_pos c7_2))
    · skip
      exact zthrow hst C E9 hnt (hl.1.trans hml.symm) hlocks hw (k := 1) (by decide) rfl rfl zTx_140 dX6_count_10 dX6_count_13 dX6_count_14 dX6_count_16 dX6_count_19 ⟨Nat.le_of_ble_eq_true rfl, Nat.le_of_ble_eq_true rfl, Nat.le_of_ble_eq_true rfl, Nat.le_of_ble_eq_true rfl⟩ ⟨Nat.le_of_ble_eq_true rfl, Nat.le_of_ble_eq_true rfl⟩ ⟨1, by decide, rfl, (if_neg c1_1).trans (if_neg c7_2)⟩

set_option maxHeartbeats 4000000 in
set_option maxRecDepth 100000 in
theorem c_X6_buddle (l : Launch) (hst : l.stackTraces = false) (D : va_G) (cy : Nat → ClassId) (ad : ZN → Nat) (m : ZM) (sz : Nat) {L : List ZN} (hL : zL L) (b k : Int32) : vx_Met l yX6_buddle (zws yX6_buddle cX6_buddle 4 (some .int)) ({ frames := 7, cells := 2, slots := 12, locals := 121 } : Room) (zPx D cy ad L m sz [.ref (ad (0, 0, 0)), .int b, .int k]) (zQi (fun r m1 => q6_buddle m b k = (0, r, m1)) D cy ad L sz) (zXc (fun E u => ∃ kx, kx ≠ 0 ∧ E = zEn kx ∧ q6_buddle m b k = (kx, 0, u)) D cy ad L sz) 2 12 (zA ad L sz) := by
  refine zXopen (Qc := fun sz => zQi (fun r m1 => q6_buddle m b k = (0, r, m1)) D cy ad L sz) (XC := fun sz => zXc (fun E u => ∃ kx, kx ≠ 0 ∧ E = zEn kx ∧ q6_buddle m b k = (kx, 0, u)) D cy ad L sz) RX6 (by decide +kernel) rfl (Nat.le_of_ble_eq_true rfl) ?_
  intro p e s mi below meth c ls C E9 hnt hr hlocks hml hl H locs hw
  obtain ⟨hx, hb, hts, hown, hK, hNw⟩ := id C
  have hl : lv_has ls 4 [(0, .ref (ad (0, 0, 0))), (1, .int b), (2, .int k)] := hl
  refine lv_aload_n hx hb dX6_buddle_0 rfl (lv_at hl 0 rfl) ?_
  refine lv_iload_n hx hb dX6_buddle_1 rfl (lv_at hl 1 rfl) ?_
  refine zxa_r C hnt hlocks hw (zrunVx (rest := []) C E9 hml hl.1 hw (zn0 hL) rfl rfl (c_X6_buddleNumbered l hst D cy ad m H.size hL b) zv_X6_145 rfl rfl rfl ⟨Nat.le_of_ble_eq_true rfl, Nat.le_of_ble_eq_true rfl⟩ rfl (Nat.le_of_ble_eq_true rfl) dX6_buddle_2 ⟨Nat.le_of_ble_eq_true rfl, Nat.le_of_ble_eq_true rfl⟩) ⟨Nat.le_of_ble_eq_true rfl, Nat.le_of_ble_eq_true rfl⟩ (fun E u h => by obtain ⟨k9, hk9, he9, hc9, rfl⟩ := h; subst hc9; exact ⟨_, hk9, he9, if_neg hk9⟩) (fun r3 m2 H locs h1 hw => ?_)
  obtain ⟨er3, kh1, h1⟩ := h1
  rw [h1] at hw
  clear h1 m2
  subst er3
  obtain ⟨ub, lb⟩ := q6_ud_ok kh1
  refine lv_astore_n (lv' := [(3, .ref (ad (7, 0, 42 + b.toNatClampNeg))), (0, .ref (ad (0, 0, 0))), (1, .int b), (2, .int k)]) hx hb dX6_buddle_5 rfl hl (by decide) rfl (fun ls hl => ?_)
  refine lv_iload_n hx hb dX6_buddle_6 rfl (lv_at hl 3 rfl) ?_
  refine lv_if_lt (tgt := 15) hx hb dX6_buddle_7 (by decide) (fun c7_4 => ?_) (fun c7_4 => ?_)
  · skip
    exact zthrow hst C E9 hnt (hl.1.trans hml.symm) hlocks hw (k := 1) (by decide) rfl rfl zTx_149 dX6_buddle_15 dX6_buddle_18 dX6_buddle_19 dX6_buddle_21 dX6_buddle_24 ⟨Nat.le_of_ble_eq_true rfl, Nat.le_of_ble_eq_true rfl, Nat.le_of_ble_eq_true rfl, Nat.le_of_ble_eq_true rfl⟩ ⟨Nat.le_of_ble_eq_true rfl, Nat.le_of_ble_eq_true rfl⟩ ⟨1, by decide, rfl, (if_pos kh1).trans (if_pos c7_4)⟩
  · skip
    refine lv_iload_n hx hb dX6_buddle_10 rfl (lv_at hl 3 rfl) ?_
    refine lv_iconst (v := 3) hx hb dX6_buddle_11 (by decide) ?_
    refine lv_icmp_lt (tgt := 25) hx hb dX6_buddle_12 (by decide) (fun c12_5 => ?_) (fun c12_5 => ?_)
    · skip
      refine lv_aload_n hx hb dX6_buddle_25 rfl (lv_at hl 0 rfl) ?_
      refine lv_iload_n hx hb dX6_buddle_26 rfl (lv_at hl 3 rfl) ?_
      refine zafter_i C hw (zrunV (rest := []) C hml hl.1 hw (zn7 hL (by decide) (by omega)) rfl rfl (c_X3_tellOfOre l D cy ad m H.size hL (by decide) (by omega) k) zv_X6_151 rfl rfl rfl ⟨Nat.le_of_ble_eq_true rfl, Nat.le_of_ble_eq_true rfl⟩ rfl (Nat.le_of_ble_eq_true rfl) dX6_buddle_27 ⟨Nat.le_of_ble_eq_true rfl, Nat.le_of_ble_eq_true rfl⟩) (fun r8 m7 H locs h6 hw => ?_)
      obtain ⟨er8, h6⟩ := h6
      rw [h6] at hw
      clear h6 m7
      refine W.widen (k := 2) (n := 12) (by omega) (by omega) ?_
      refine vx_ret ?_
      exact zret_i C hr hlocks hw dX6_buddle_30 (by subst_vars; exact (if_pos kh1).trans ((if_neg c7_4).trans (if_pos c12_5)))
    · skip
      exact zthrow hst C E9 hnt (hl.1.trans hml.symm) hlocks hw (k := 1) (by decide) rfl rfl zTx_149 dX6_buddle_15 dX6_buddle_18 dX6_buddle_19 dX6_buddle_21 dX6_buddle_24 ⟨Nat.le_of_ble_eq_true rfl, Nat.le_of_ble_eq_true rfl, Nat.le_of_ble_eq_true rfl, Nat.le_of_ble_eq_true rfl⟩ ⟨Nat.le_of_ble_eq_true rfl, Nat.le_of_ble_eq_true rfl⟩ ⟨1, by decide, rfl, (if_pos kh1).trans ((if_neg c7_4).trans (if_neg c12_5))⟩

set_option maxHeartbeats 4000000 in
set_option maxRecDepth 100000 in
theorem c_X6_wash (l : Launch) (hst : l.stackTraces = false) (D : va_G) (cy : Nat → ClassId) (ad : ZN → Nat) (m : ZM) (sz : Nat) {L : List ZN} (hL : zL L) {fq hn : Nat} (hfq : m (8, 0, 0) 1 = nI fq) (lfq : fq < 30) (hhn : m (8, 0, 0) 2 = nI hn) (lhn : hn ≤ 30) (b x : Int32) : vx_Met l yX6_wash (zws yX6_wash cX6_wash 4 (some .int)) ({ frames := 7, cells := 3, slots := 18, locals := 121 } : Room) (zPx D cy ad L m sz [.ref (ad (0, 0, 0)), .int b, .int x]) (zQi (fun r m1 => q6_wash m fq hn b x = (0, r, m1)) D cy ad L sz) (zXc (fun E u => ∃ kx, kx ≠ 0 ∧ E = zEn kx ∧ q6_wash m fq hn b x = (kx, 0, u)) D cy ad L sz) 3 18 (zA ad L sz) := by
  refine zXopen (Qc := fun sz => zQi (fun r m1 => q6_wash m fq hn b x = (0, r, m1)) D cy ad L sz) (XC := fun sz => zXc (fun E u => ∃ kx, kx ≠ 0 ∧ E = zEn kx ∧ q6_wash m fq hn b x = (kx, 0, u)) D cy ad L sz) RX6 (by decide +kernel) rfl (Nat.le_of_ble_eq_true rfl) ?_
  intro p e s mi below meth c ls C E9 hnt hr hlocks hml hl H locs hw
  obtain ⟨hx, hb, hts, hown, hK, hNw⟩ := id C
  have hl : lv_has ls 4 [(0, .ref (ad (0, 0, 0))), (1, .int b), (2, .int x)] := hl
  refine lv_aload_n hx hb dX6_wash_0 rfl (lv_at hl 0 rfl) ?_
  refine lv_iload_n hx hb dX6_wash_1 rfl (lv_at hl 1 rfl) ?_
  refine zxa_r C hnt hlocks hw (zrunVx (rest := []) C E9 hml hl.1 hw (zn0 hL) rfl rfl (c_X6_buddleNumbered l hst D cy ad m H.size hL b) zv_X6_145 rfl rfl rfl ⟨Nat.le_of_ble_eq_true rfl, Nat.le_of_ble_eq_true rfl⟩ rfl (Nat.le_of_ble_eq_true rfl) dX6_wash_2 ⟨Nat.le_of_ble_eq_true rfl, Nat.le_of_ble_eq_true rfl⟩) ⟨Nat.le_of_ble_eq_true rfl, Nat.le_of_ble_eq_true rfl⟩ (fun E u h => by obtain ⟨k9, hk9, he9, hc9, rfl⟩ := h; subst hc9; exact ⟨_, hk9, he9, if_neg hk9⟩) (fun r3 m2 H locs h1 hw => ?_)
  obtain ⟨er3, kh1, h1⟩ := h1
  rw [h1] at hw
  clear h1 m2
  subst er3
  obtain ⟨ub, lb⟩ := q6_ud_ok kh1
  refine lv_astore_n (lv' := [(3, .ref (ad (7, 0, 42 + b.toNatClampNeg))), (0, .ref (ad (0, 0, 0))), (1, .int b), (2, .int x)]) hx hb dX6_wash_5 rfl hl (by decide) rfl (fun ls hl => ?_)
  refine lv_iload_n hx hb dX6_wash_6 rfl (lv_at hl 3 rfl) ?_
  refine lv_bipush (v := 10) hx hb dX6_wash_7 (by decide) ?_
  refine lv_icmp_lt (tgt := 18) hx hb dX6_wash_9 (by decide) (fun c9_4 => ?_) (fun c9_4 => ?_)
  · skip
    exact zthrow hst C E9 hnt (hl.1.trans hml.symm) hlocks hw (k := 2) (by decide) rfl rfl zTx_156 dX6_wash_18 dX6_wash_21 dX6_wash_22 dX6_wash_24 dX6_wash_27 ⟨Nat.le_of_ble_eq_true rfl, Nat.le_of_ble_eq_true rfl, Nat.le_of_ble_eq_true rfl, Nat.le_of_ble_eq_true rfl⟩ ⟨Nat.le_of_ble_eq_true rfl, Nat.le_of_ble_eq_true rfl⟩ ⟨2, by decide, rfl, (if_pos kh1).trans (if_pos c9_4)⟩
  · skip
    refine lv_iload_n hx hb dX6_wash_12 rfl (lv_at hl 3 rfl) ?_
    refine lv_bipush (v := 90) hx hb dX6_wash_13 (by decide) ?_
    refine lv_icmp_le (tgt := 28) hx hb dX6_wash_15 (by decide) (fun c15_5 => ?_) (fun c15_5 => ?_)
    · skip
      refine lv_aload_n hx hb dX6_wash_28 rfl (lv_at hl 0 rfl) ?_
      refine zafter_i C hw (zrunV (rest := []) C hml hl.1 hw (zn7 hL (by decide) (by omega)) rfl rfl (c_X3_whole l D cy ad m H.size hL (by decide) (by omega)) zv_X6_158 rfl rfl rfl ⟨Nat.le_of_ble_eq_true rfl, Nat.le_of_ble_eq_true rfl⟩ rfl (Nat.le_of_ble_eq_true rfl) dX6_wash_29 ⟨Nat.le_of_ble_eq_true rfl, Nat.le_of_ble_eq_true rfl⟩) (fun r8 m7 H locs h6 hw => ?_)
      obtain ⟨er8, h6⟩ := h6
      rw [h6] at hw
      clear h6 m7
      refine lv_if_ne (tgt := 45) hx hb dX6_wash_32 (by decide) (fun c32_9 => ?_) (fun c32_9 => ?_)
      · skip
        rw [er8] at c32_9
        refine lv_aload_n hx hb dX6_wash_45 rfl (lv_at hl 1 rfl) ?_
        refine zxa_v C hnt hlocks hw (zrunVx (rest := []) C E9 hml hl.1 hw (zn0 hL) rfl rfl (c_X6_refuseFullHopper l hst D cy ad m H.size hL hhn lhn) zv_X6_101 rfl rfl rfl ⟨Nat.le_of_ble_eq_true rfl, Nat.le_of_ble_eq_true rfl⟩ rfl (Nat.le_of_ble_eq_true rfl) dX6_wash_46 ⟨Nat.le_of_ble_eq_true rfl, Nat.le_of_ble_eq_true rfl⟩) ⟨Nat.le_of_ble_eq_true rfl, Nat.le_of_ble_eq_true rfl⟩ (fun E u h => by obtain ⟨k9, hk9, he9, hc9, rfl⟩ := h; subst hc9; exact ⟨_, hk9, he9, (if_pos kh1).trans ((if_neg c9_4).trans ((if_pos c15_5).trans ((if_neg c32_9).trans (if_neg hk9))))⟩) (fun m11 H locs h10 hw => ?_)
        obtain ⟨kh10, h10⟩ := h10
        rw [h10] at hw
        clear h10 m11
        refine lv_aload_n hx hb dX6_wash_49 rfl (lv_at hl 1 rfl) ?_
        refine zg_X6_10 C hw (zn0 hL) dX6_wash_50 ?_
        refine lv_aload_n hx hb dX6_wash_53 rfl (lv_at hl 0 rfl) ?_
        refine lv_iload_n hx hb dX6_wash_54 rfl (lv_at hl 3 rfl) ?_
        refine zafter_i C hw (zrunV (rest := []) C hml hl.1 hw (zn1 hL (by decide)) rfl rfl (c_X5_partByWater l D cy ad m H.size hL (by decide) (by omega) hfq lfq hhn lhn x) zv_X6_164 rfl rfl rfl ⟨Nat.le_of_ble_eq_true rfl, Nat.le_of_ble_eq_true rfl⟩ rfl (Nat.le_of_ble_eq_true rfl) dX6_wash_55 ⟨Nat.le_of_ble_eq_true rfl, Nat.le_of_ble_eq_true rfl⟩) (fun r15 m14 H locs h13 hw => ?_)
        obtain ⟨er15, em14⟩ := h13
        refine W.widen (k := 3) (n := 18) (by omega) (by omega) ?_
        refine vx_ret ?_
        exact zret_i C hr hlocks hw dX6_wash_58 (by subst_vars; exact (if_pos kh1).trans ((if_neg c9_4).trans ((if_pos c15_5).trans ((if_neg c32_9).trans (if_pos kh10)))))
      · skip
        rw [er8] at c32_9
        exact zthrow hst C E9 hnt (hl.1.trans hml.symm) hlocks hw (k := 3) (by decide) rfl rfl zTx_162 dX6_wash_35 dX6_wash_38 dX6_wash_39 dX6_wash_41 dX6_wash_44 ⟨Nat.le_of_ble_eq_true rfl, Nat.le_of_ble_eq_true rfl, Nat.le_of_ble_eq_true rfl, Nat.le_of_ble_eq_true rfl⟩ ⟨Nat.le_of_ble_eq_true rfl, Nat.le_of_ble_eq_true rfl⟩ ⟨3, by decide, rfl, (if_pos kh1).trans ((if_neg c9_4).trans ((if_pos c15_5).trans (if_pos c32_9)))⟩
    · skip
      exact zthrow hst C E9 hnt (hl.1.trans hml.symm) hlocks hw (k := 2) (by decide) rfl rfl zTx_156 dX6_wash_18 dX6_wash_21 dX6_wash_22 dX6_wash_24 dX6_wash_27 ⟨Nat.le_of_ble_eq_true rfl, Nat.le_of_ble_eq_true rfl, Nat.le_of_ble_eq_true rfl, Nat.le_of_ble_eq_true rfl⟩ ⟨Nat.le_of_ble_eq_true rfl, Nat.le_of_ble_eq_true rfl⟩ ⟨2, by decide, rfl, (if_pos kh1).trans ((if_neg c9_4).trans (if_neg c15_5))⟩

set_option maxHeartbeats 4000000 in
set_option maxRecDepth 100000 in
theorem c_X6_again (l : Launch) (hst : l.stackTraces = false) (D : va_G) (cy : Nat → ClassId) (ad : ZN → Nat) (m : ZM) (sz : Nat) {L : List ZN} (hL : zL L) (b : Int32) : vx_Met l yX6_again (zws yX6_again cX6_again 3 (some .int)) ({ frames := 7, cells := 1, slots := 6, locals := 121 } : Room) (zPx D cy ad L m sz [.ref (ad (0, 0, 0)), .int b]) (zQi (fun r m1 => q6_again m b = (0, r, m1)) D cy ad L sz) (zXc (fun E u => ∃ kx, kx ≠ 0 ∧ E = zEn kx ∧ q6_again m b = (kx, 0, u)) D cy ad L sz) 1 6 (zA ad L sz) := by
  refine zXopen (Qc := fun sz => zQi (fun r m1 => q6_again m b = (0, r, m1)) D cy ad L sz) (XC := fun sz => zXc (fun E u => ∃ kx, kx ≠ 0 ∧ E = zEn kx ∧ q6_again m b = (kx, 0, u)) D cy ad L sz) RX6 (by decide +kernel) rfl (Nat.le_of_ble_eq_true rfl) ?_
  intro p e s mi below meth c ls C E9 hnt hr hlocks hml hl H locs hw
  obtain ⟨hx, hb, hts, hown, hK, hNw⟩ := id C
  have hl : lv_has ls 3 [(0, .ref (ad (0, 0, 0))), (1, .int b)] := hl
  refine lv_aload_n hx hb dX6_again_0 rfl (lv_at hl 0 rfl) ?_
  refine lv_iload_n hx hb dX6_again_1 rfl (lv_at hl 1 rfl) ?_
  refine zxa_r C hnt hlocks hw (zrunVx (rest := []) C E9 hml hl.1 hw (zn0 hL) rfl rfl (c_X6_buddleNumbered l hst D cy ad m H.size hL b) zv_X6_145 rfl rfl rfl ⟨Nat.le_of_ble_eq_true rfl, Nat.le_of_ble_eq_true rfl⟩ rfl (Nat.le_of_ble_eq_true rfl) dX6_again_2 ⟨Nat.le_of_ble_eq_true rfl, Nat.le_of_ble_eq_true rfl⟩) ⟨Nat.le_of_ble_eq_true rfl, Nat.le_of_ble_eq_true rfl⟩ (fun E u h => by obtain ⟨k9, hk9, he9, hc9, rfl⟩ := h; subst hc9; exact ⟨_, hk9, he9, if_neg hk9⟩) (fun r3 m2 H locs h1 hw => ?_)
  obtain ⟨er3, kh1, h1⟩ := h1
  rw [h1] at hw
  clear h1 m2
  subst er3
  obtain ⟨ub, lb⟩ := q6_ud_ok kh1
  refine lv_astore_n (lv' := [(2, .ref (ad (7, 0, 42 + b.toNatClampNeg))), (0, .ref (ad (0, 0, 0))), (1, .int b)]) hx hb dX6_again_5 rfl hl (by decide) rfl (fun ls hl => ?_)
  refine lv_aload_n hx hb dX6_again_6 rfl (lv_at hl 1 rfl) ?_
  refine zg_X6_10 C hw (zn0 hL) dX6_again_7 ?_
  refine zg_X6_168 C hw (zn1 hL (by decide)) dX6_again_10 ?_
  refine lv_aload_n hx hb dX6_again_13 rfl (lv_at hl 0 rfl) ?_
  refine lv_sipush (v := 6000) hx hb dX6_again_14 (by decide) ?_
  refine lv_aload_n hx hb dX6_again_17 rfl (lv_at hl 0 rfl) ?_
  refine zafter_i C hw (zrunV (rest := [.int 6000, .ref (ad (7, 0, 42 + b.toNatClampNeg)), .ref (ad (7, 0, 45))]) C hml hl.1 hw (zn7 hL (by decide) (by omega)) rfl rfl (c_X3_whole l D cy ad m H.size hL (by decide) (by omega)) zv_X6_158 rfl rfl rfl ⟨Nat.le_of_ble_eq_true rfl, Nat.le_of_ble_eq_true rfl⟩ rfl (Nat.le_of_ble_eq_true rfl) dX6_again_18 ⟨Nat.le_of_ble_eq_true rfl, Nat.le_of_ble_eq_true rfl⟩) (fun r6 m5 H locs h4 hw => ?_)
  obtain ⟨er6, h4⟩ := h4
  rw [h4] at hw
  clear h4 m5
  refine lv_isub hx hb dX6_again_21 ?_
  refine zafter_i C hw (zrunV (rest := []) C hml hl.1 hw (zn7 hL (by decide) (by omega)) rfl rfl (c_X3_moveTo l D cy ad m H.size hL (by decide) (by decide) (by decide) (by omega) (6000 - r6)) zv_X6_172 rfl rfl rfl ⟨Nat.le_of_ble_eq_true rfl, Nat.le_of_ble_eq_true rfl⟩ rfl (Nat.le_of_ble_eq_true rfl) dX6_again_22 ⟨Nat.le_of_ble_eq_true rfl, Nat.le_of_ble_eq_true rfl⟩) (fun r9 m8 H locs h7 hw => ?_)
  obtain ⟨er9, em8⟩ := h7
  refine W.widen (k := 1) (n := 6) (by omega) (by omega) ?_
  refine vx_ret ?_
  exact zret_i C hr hlocks hw dX6_again_25 (by subst_vars; exact if_pos kh1)

set_option maxHeartbeats 4000000 in
set_option maxRecDepth 100000 in
theorem c_X6_smelt (l : Launch) (hst : l.stackTraces = false) (D : va_G) (cy : Nat → ClassId) (ad : ZN → Nat) (m : ZM) (sz : Nat) {L : List ZN} (hL : zL L) (x : Int32) : vx_Met l yX6_smelt (zws yX6_smelt cX6_smelt 2 (some .int)) ({ frames := 6, cells := 1, slots := 6, locals := 100 } : Room) (zPx D cy ad L m sz [.ref (ad (0, 0, 0)), .int x]) (zQi (fun r m1 => q6_smelt m x = (0, r, m1)) D cy ad L sz) (zXc (fun E u => ∃ kx, kx ≠ 0 ∧ E = zEn kx ∧ q6_smelt m x = (kx, 0, u)) D cy ad L sz) 1 6 (zA ad L sz) := by
  refine zXopen (Qc := fun sz => zQi (fun r m1 => q6_smelt m x = (0, r, m1)) D cy ad L sz) (XC := fun sz => zXc (fun E u => ∃ kx, kx ≠ 0 ∧ E = zEn kx ∧ q6_smelt m x = (kx, 0, u)) D cy ad L sz) RX6 (by decide +kernel) rfl (Nat.le_of_ble_eq_true rfl) ?_
  intro p e s mi below meth c ls C E9 hnt hr hlocks hml hl H locs hw
  obtain ⟨hx, hb, hts, hown, hK, hNw⟩ := id C
  have hl : lv_has ls 2 [(0, .ref (ad (0, 0, 0))), (1, .int x)] := hl
  refine lv_iload_n hx hb dX6_smelt_0 rfl (lv_at hl 1 rfl) ?_
  refine lv_iconst (v := 1) hx hb dX6_smelt_1 (by decide) ?_
  refine lv_icmp_ge (tgt := 15) hx hb dX6_smelt_2 (by decide) (fun c2_1 => ?_) (fun c2_1 => ?_)
  · skip
    refine lv_iload_n hx hb dX6_smelt_15 rfl (lv_at hl 1 rfl) ?_
    refine lv_aload_n hx hb dX6_smelt_16 rfl (lv_at hl 0 rfl) ?_
    refine zg_X6_10 C hw (zn0 hL) dX6_smelt_17 ?_
    refine zg_X6_168 C hw (zn1 hL (by decide)) dX6_smelt_20 ?_
    refine zafter_i C hw (zrunV (rest := [.int x]) C hml hl.1 hw (zn7 hL (by decide) (by omega)) rfl rfl (c_X3_whole l D cy ad m H.size hL (by decide) (by decide)) zv_X6_158 rfl rfl rfl ⟨Nat.le_of_ble_eq_true rfl, Nat.le_of_ble_eq_true rfl⟩ rfl (Nat.le_of_ble_eq_true rfl) dX6_smelt_23 ⟨Nat.zero_le _, Nat.zero_le _⟩) (fun r4 m3 H locs h2 hw => ?_)
    obtain ⟨er4, h2⟩ := h2
    rw [h2] at hw
    clear h2 m3
    refine lv_icmp_le (tgt := 39) hx hb dX6_smelt_26 (by decide) (fun c26_5 => ?_) (fun c26_5 => ?_)
    · skip
      rw [er4] at c26_5
      refine lv_aload_n hx hb dX6_smelt_39 rfl (lv_at hl 0 rfl) ?_
      refine zg_X6_10 C hw (zn0 hL) dX6_smelt_40 ?_
      refine lv_iload_n hx hb dX6_smelt_43 rfl (lv_at hl 1 rfl) ?_
      refine zafter_i C hw (zrunV (rest := []) C hml hl.1 hw (zn1 hL (by decide)) rfl rfl (c_X5_smeltFromStore l D cy ad m H.size hL (by decide) x) zv_X6_179 rfl rfl rfl ⟨Nat.le_of_ble_eq_true rfl, Nat.le_of_ble_eq_true rfl⟩ rfl (Nat.le_of_ble_eq_true rfl) dX6_smelt_44 ⟨Nat.zero_le _, Nat.zero_le _⟩) (fun r8 m7 H locs h6 hw => ?_)
      obtain ⟨er8, em7⟩ := h6
      refine W.widen (k := 1) (n := 6) (by omega) (by omega) ?_
      refine vx_ret ?_
      exact zret_i C hr hlocks hw dX6_smelt_47 (by subst_vars; exact (if_pos c2_1).trans (if_pos c26_5))
    · skip
      rw [er4] at c26_5
      exact zthrow hst C E9 hnt (hl.1.trans hml.symm) hlocks hw (k := 3) (by decide) rfl rfl zTx_177 dX6_smelt_29 dX6_smelt_32 dX6_smelt_33 dX6_smelt_35 dX6_smelt_38 ⟨Nat.le_of_ble_eq_true rfl, Nat.le_of_ble_eq_true rfl, Nat.le_of_ble_eq_true rfl, Nat.le_of_ble_eq_true rfl⟩ ⟨Nat.le_of_ble_eq_true rfl, Nat.le_of_ble_eq_true rfl⟩ ⟨3, by decide, rfl, (if_pos c2_1).trans (if_neg c26_5)⟩
  · skip
    exact zthrow hst C E9 hnt (hl.1.trans hml.symm) hlocks hw (k := 2) (by decide) rfl rfl zTx_175 dX6_smelt_5 dX6_smelt_8 dX6_smelt_9 dX6_smelt_11 dX6_smelt_14 ⟨Nat.le_of_ble_eq_true rfl, Nat.le_of_ble_eq_true rfl, Nat.le_of_ble_eq_true rfl, Nat.le_of_ble_eq_true rfl⟩ ⟨Nat.le_of_ble_eq_true rfl, Nat.le_of_ble_eq_true rfl⟩ ⟨2, by decide, rfl, if_neg c2_1⟩
