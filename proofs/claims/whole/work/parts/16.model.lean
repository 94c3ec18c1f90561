/-! the reference's calls -/
def gM (m : ZM) (bc : Nat) (sc go : Nat → Nat) (hq ln : Nat) : Prop := gS m 0 bc sc go hq ∧ m (13, 0, 0) 14 = nI ln ∧ ln ≤ 30
theorem gS_t {m : ZM} {w bc hq : Nat} {sc go : Nat → Nat} {j : Nat} {x : Int32} (G : gS m w bc sc go hq) : gS (zs m (12, 0, 0) j x) w bc sc go hq := gS_same G (fun j _ => by rw [zs_k (zk rfl)]) (zs_k (zk rfl)) (zs_k (zk rfl)) (zs_k (zk rfl)) (zs_k (zk rfl)) (zs_k (zk rfl)) (zs_k (zk rfl))
theorem gM_t {m : ZM} {bc hq ln : Nat} {sc go : Nat → Nat} {j : Nat} {x : Int32} (G : gM m bc sc go hq ln) : gM (zs m (12, 0, 0) j x) bc sc go hq ln := ⟨gS_t G.1, by rw [zs_k (zk rfl)]; exact G.2.1, G.2.2⟩
def q_isIn (x a b : Int32) : Int32 := if x < a then 0 else if b < x then 0 else 1
theorem q_isIn_ok {x : Int32} {a b : Nat} (ha : a < 2 ^ 31) (hb : b < 2 ^ 31) (h : ¬ q_isIn x (nI a) (nI b) = 0) : x = nI x.toNatClampNeg ∧ a ≤ x.toNatClampNeg ∧ x.toNatClampNeg ≤ b := by
  unfold q_isIn at h
  by_cases c1 : x < nI a
  · rw [if_pos c1] at h; exact absurd rfl h
  by_cases c2 : nI b < x
  · rw [if_neg c1, if_pos c2] at h; exact absurd rfl h
  have h0 : ¬ x < 0 := fun q => c1 (by
    rw [Int32.lt_iff_toInt_lt] at q ⊢
    rw [nI_toInt ha]
    have e : (0 : Int32).toInt = 0 := rfl
    omega)
  obtain ⟨k, hk, rfl⟩ := nI_of h0
  rw [nI_clamp hk]
  exact ⟨rfl, znlt c1 rfl rfl hk ha, znlt c2 rfl rfl hb hk⟩
theorem q_isIn_box {x : Int32} {n : Nat} (hn : n < 2 ^ 31) (h : ¬ q_isIn x 0 (nI n - 1) = 0) : x = nI x.toNatClampNeg ∧ x.toNatClampNeg < n := by
  cases n with
  | zero =>
    unfold q_isIn at h
    by_cases c1 : x < 0
    · rw [if_pos c1] at h; exact absurd rfl h
    rw [if_neg c1] at h
    by_cases c2 : nI 0 - 1 < x
    · rw [if_pos c2] at h; exact absurd rfl h
    exfalso
    rw [Int32.lt_iff_toInt_lt] at c1 c2
    have e : (0 : Int32).toInt = 0 := rfl
    have e1 : (nI 0 - 1).toInt = -1 := by decide
    omega
  | succ n =>
    rw [nI_pred] at h
    obtain ⟨h1, -, h3⟩ := q_isIn_ok (a := 0) (b := n) (by decide) (by omega) h
    exact ⟨h1, by omega⟩
theorem q_isIn_b {x a b : Int32} : narrow .boolean (.int (q_isIn x a b)) = .int (q_isIn x a b) := by
  unfold q_isIn
  split
  · rfl
  split <;> rfl
theorem zpair {α β : Type} {q : α × β} {a : α} {b : β} (h : q = (a, b)) : a = q.1 ∧ b = q.2 := by rw [h]; exact ⟨rfl, rfl⟩
def q8_t (m : ZM) (k : Int32) : Int32 × ZM := (0, zs (zs m (12, 0, 0) 0 0) (12, 0, 0) 0 k)
def q8_z (m : ZM) : ZM := zs m (12, 0, 0) 0 0
def q8_setInflow (m : ZM) (h x : Int32) : Int32 × ZM :=
  if q_isIn h 0 23 = 0 then q8_t m 1 else if q_isIn x 0 900 = 0 then q8_t m 2 else (q8_z m (2, 10 + 20 * 0, 24) h.toNatClampNeg, zs (q8_z m) (2, 10 + 20 * 0, 24) h.toNatClampNeg x)
def q8_setSluice (m : ZM) (x : Int32) : Int32 × ZM := if q_isIn x 0 20 = 0 then q8_t m 1 else (q8_z m (13, 0, 0) 2, zs (q8_z m) (13, 0, 0) 2 x)
def q8_addBox (m : ZM) (bc : Nat) : Int32 × ZM :=
  if nI bc = 4 then q8_t m 1 else
    let m3 := zs (zs (q8_z m) (2, 15 + 20 * 0, 4) bc 50) (2, 17 + 20 * 0, 4) bc 5
    let m4 := zs m3 (13, 0, 0) 4 (m3 (13, 0, 0) 4 + 1)
    (m4 (13, 0, 0) 4 - 1, m4)
def q8_hang (m : ZM) (sc : Nat → Nat) (b x y : Int32) : Int32 × ZM :=
  if q_isIn b 0 (q8_z m (13, 0, 0) 4 - 1) = 0 then q8_t m 1 else if q_isIn x 10 60 = 0 then q8_t m 2 else if q_isIn y 1 4 = 0 then q8_t m 2 else if nI (sc b.toNatClampNeg) = 4 then q8_t m 3 else
    let k := 4 * b.toNatClampNeg + sc b.toNatClampNeg
    let m4 := zs (zs (zs (q8_z m) (2, 12 + 20 * 0, 16) k x) (2, 13 + 20 * 0, 16) k y) (2, 14 + 20 * 0, 16) k 0
    let m5 := zs m4 (2, 11 + 20 * 0, 4) b.toNatClampNeg (m4 (2, 11 + 20 * 0, 4) b.toNatClampNeg + 1)
    (m5 (2, 11 + 20 * 0, 4) b.toNatClampNeg, m5)
def q8_shoe (m : ZM) (sc : Nat → Nat) (b k : Int32) : Int32 × ZM :=
  if q_isIn b 0 (q8_z m (13, 0, 0) 4 - 1) = 0 then q8_t m 1 else if q_isIn k 0 (nI (sc b.toNatClampNeg) - 1) = 0 then q8_t m 1 else
    (q8_z m (2, 14 + 20 * 0, 16) (4 * b.toNatClampNeg + k.toNatClampNeg), zs (q8_z m) (2, 14 + 20 * 0, 16) (4 * b.toNatClampNeg + k.toNatClampNeg) 0)
def q8_setBox (m : ZM) (b x y : Int32) : Int32 × ZM :=
  if q_isIn b 0 (q8_z m (13, 0, 0) 4 - 1) = 0 then q8_t m 1 else if q_isIn x 0 300 = 0 then q8_t m 2 else if q_isIn y 0 2 = 0 then q8_t m 2 else
    (q8_z m (2, 15 + 20 * 0, 4) b.toNatClampNeg, zs (zs (q8_z m) (2, 15 + 20 * 0, 4) b.toNatClampNeg x) (2, 16 + 20 * 0, 4) b.toNatClampNeg y)
def q8_wears (m : ZM) (b n : Nat) : Int32 := bx_sum (fun j => m (2, 14 + 20 * 0, 16) (4 * b + j)) n
def q8_told2 (m : ZM) (sc : Nat → Nat) (b k : Nat) : Int32 :=
  if nI k = 10 then q8_wears m b (sc b) else if nI k = 0 then m (2, 11 + 20 * 0, 4) b else if nI k = 1 then m (2, 15 + 20 * 0, 4) b else if nI k = 2 then m (2, 16 + 20 * 0, 4) b else if nI k = 3 then m (2, 17 + 20 * 0, 4) b else m (2, 18 + 20 * 0, 4) b
def q8_boxTold (m : ZM) (sc : Nat → Nat) (b k : Nat) : Int32 :=
  if nI k ≤ 3 then q8_told2 m sc b k else if 10 ≤ nI k then q8_told2 m sc b k else if nI k ≤ 6 then m (2, 19 + 20 * 0, 24) (2 * (3 * b + (k - 4) % 3) + 0) else m (2, 19 + 20 * 0, 24) (2 * (3 * b + (k - 4) % 3) + 1)
def q8_box (m : ZM) (sc : Nat → Nat) (b k : Int32) : Int32 × ZM :=
  if q_isIn b 0 (q8_z m (13, 0, 0) 4 - 1) = 0 then q8_t m 1 else if q_isIn k 0 11 = 0 then q8_t m 1 else (q8_boxTold (q8_z m) sc b.toNatClampNeg k.toNatClampNeg, q8_z m)
def q8_bring (m : ZM) (ln : Nat) (x y z : Int32) : Int32 × ZM :=
  if q_isIn x 1 5000 = 0 then q8_t m 1 else if q_isIn y 0 1000 = 0 then q8_t m 1 else if q_isIn z 1 9 = 0 then q8_t m 1 else if nI ln = 30 then q8_t m 2 else
    let m1 := q_addLot7 (q8_z m) 0 ln (x - x * y / 1000) (x * y / 1000) z
    (m1 (13, 0, 0) 14, m1)
def q8_lot (m : ZM) (ln : Nat) (i k : Int32) : Int32 × ZM :=
  if q_isIn i 0 (nI ln - 1) = 0 then q8_t m 1 else if q_isIn k 0 2 = 0 then q8_t m 1 else (q8_z m (2, 20 + 20 * 0, 90) (3 * i.toNatClampNeg + k.toNatClampNeg), q8_z m)
def q_runM7 (m : ZM) (w bc : Nat) (sc go : Nat → Nat) (hq : Nat) : Nat → ZM
  | 0 => m
  | k + 1 => q_pass7 (q_runM7 m w bc sc go hq k) w bc sc go (hq + k)
def q_runT7 (m : ZM) (w bc : Nat) (sc go : Nat → Nat) (hq : Nat) : Nat → Int32
  | 0 => 0
  | k + 1 => q_runT7 m w bc sc go hq k + q_turns7 (q_runM7 m w bc sc go hq k) w bc sc (hq + k)
theorem gS_run {m : ZM} {w bc hq k : Nat} {sc go : Nat → Nat} (G : gS m w bc sc go hq) (hk : hq + k < 2 ^ 30) : gS (q_runM7 m w bc sc go hq k) w bc sc go (hq + k) := by
  induction k with
  | zero => exact G
  | succ k ih => exact gS_hour (ih (by omega)) (by omega)
def q8_run (m : ZM) (bc : Nat) (sc go : Nat → Nat) (hq : Nat) (h : Int32) : Int32 × ZM :=
  if q_isIn h 1 100 = 0 then q8_t m 1 else if nI hq + h ≤ 5000 then (q_runT7 (q8_z m) 0 bc sc go hq h.toNatClampNeg, q_runM7 (q8_z m) 0 bc sc go hq h.toNatClampNeg) else q8_t m 2
def q8_tinIn (m : ZM) (n : Nat) : Int32 := bx_sum (fun k => m (2, 19 + 20 * 0, 24) (2 * k + 1)) n
def q8_grade (a b : Int64) : Int32 := if lg_cmp (a + b) 0 = 0 then 0 else (b * 1000 / (a + b)).toInt32
def q8_budTold (m : ZM) (b k : Nat) : Int32 := if 2 ≤ nI k then q8_grade (m (2, 21 + 20 * 0, 6) (2 * b)).toInt64 (m (2, 21 + 20 * 0, 6) (2 * b + 1)).toInt64 else m (2, 21 + 20 * 0, 6) (2 * b + k)
def q8_buddle (m : ZM) (b k : Int32) : Int32 × ZM :=
  if q_isIn b 0 2 = 0 then q8_t m 1 else if q_isIn k 0 2 = 0 then q8_t m 1 else (q8_budTold (q8_z m) b.toNatClampNeg k.toNatClampNeg, q8_z m)
def q8_headTin (m : ZM) (b : Nat) (x : Int32) : Int32 := m (2, 21 + 20 * 0, 6) (2 * b + 1) * (100 - x / 3) / 100
def q8_headRock (m : ZM) (b : Nat) (x : Int32) : Int32 := m (2, 21 + 20 * 0, 6) (2 * b) * ((100 - x) / 4) / 100

set_option maxHeartbeats 4000000 in
set_option maxRecDepth 100000 in
theorem c_X8_thrown (l : Launch) (D : va_G) (cy : Nat → ClassId) (ad : ZN → Nat) (m : ZM) (sz : Nat) {L : List ZN} (hL : zL L) : Met l yX8_thrown (zws yX8_thrown cX8_thrown 1 (some .int)) ({ frames := 0, cells := 0, slots := 0, locals := 0 } : Room) (zPc D cy ad L m sz [.ref (ad (12, 0, 0))]) (zQi (fun r m1 => r = m (12, 0, 0) 0 ∧ m1 = m) D cy ad L sz) 0 0 (zA ad L sz) := by
  refine zopen (Qc := fun sz => zQi (fun r m1 => r = m (12, 0, 0) 0 ∧ m1 = m) D cy ad L sz) RX8 (plainFor_of_name (by decide)) rfl (Nat.le_of_ble_eq_true rfl) ?_
  intro p e s mi below meth c ls C hr hlocks hml hl H locs hw
  obtain ⟨hx, hb, hts, hown, hK, hNw⟩ := id C
  have hl : lv_has ls 1 [(0, .ref (ad (12, 0, 0)))] := hl
  refine lv_aload_n hx hb dX8_thrown_0 rfl (lv_at hl 0 rfl) ?_
  refine zg_X8_23 C hw (zn12 hL) dX8_thrown_1 ?_
  exact zret_i C hr hlocks hw dX8_thrown_4 ⟨rfl, rfl⟩

set_option maxHeartbeats 4000000 in
set_option maxRecDepth 100000 in
theorem c_X8_no (l : Launch) (D : va_G) (cy : Nat → ClassId) (ad : ZN → Nat) (m : ZM) (sz : Nat) {L : List ZN} (hL : zL L) (k : Int32) : Met l yX8_no (zws yX8_no cX8_no 2 (some .int)) ({ frames := 0, cells := 0, slots := 0, locals := 0 } : Room) (zPc D cy ad L m sz [.ref (ad (12, 0, 0)), .int k]) (zQi (fun r m1 => r = 0 ∧ m1 = zs m (12, 0, 0) 0 k) D cy ad L sz) 0 0 (zA ad L sz) := by
  refine zopen (Qc := fun sz => zQi (fun r m1 => r = 0 ∧ m1 = zs m (12, 0, 0) 0 k) D cy ad L sz) RX8 (plainFor_of_name (by decide)) rfl (Nat.le_of_ble_eq_true rfl) ?_
  intro p e s mi below meth c ls C hr hlocks hml hl H locs hw
  obtain ⟨hx, hb, hts, hown, hK, hNw⟩ := id C
  have hl : lv_has ls 2 [(0, .ref (ad (12, 0, 0))), (1, .int k)] := hl
  refine lv_aload_n hx hb dX8_no_0 rfl (lv_at hl 0 rfl) ?_
  refine lv_iload_n hx hb dX8_no_1 rfl (lv_at hl 1 rfl) ?_
  refine zp_X8_23 C hw (zn12 hL) dX8_no_2 (fun H locs m1 em1 hw => ?_)
  refine lv_iconst (v := 0) hx hb dX8_no_5 (by decide) ?_
  exact zret_i C hr hlocks hw dX8_no_6 ⟨rfl, (by assumption)⟩

set_option maxHeartbeats 4000000 in
set_option maxRecDepth 100000 in
theorem c_X8_isIn (l : Launch) (D : va_G) (cy : Nat → ClassId) (ad : ZN → Nat) (m : ZM) (sz : Nat) {L : List ZN} (x a b : Int32) : Met l yX8_isIn (zws yX8_isIn cX8_isIn 3 (some .boolean)) ({ frames := 0, cells := 0, slots := 0, locals := 0 } : Room) (zPc D cy ad L m sz [.int x, .int a, .int b]) (zQi (fun r m1 => r = q_isIn x a b ∧ m1 = m) D cy ad L sz) 0 0 (zA ad L sz) := by
  refine zopen (Qc := fun sz => zQi (fun r m1 => r = q_isIn x a b ∧ m1 = m) D cy ad L sz) RX8 (plainFor_of_name (by decide)) rfl (Nat.le_of_ble_eq_true rfl) ?_
  intro p e s mi below meth c ls C hr hlocks hml hl H locs hw
  obtain ⟨hx, hb, hts, hown, hK, hNw⟩ := id C
  have hl : lv_has ls 3 [(0, .int x), (1, .int a), (2, .int b)] := hl
  refine lv_iload_n hx hb dX8_isIn_0 rfl (lv_at hl 0 rfl) ?_
  refine lv_iload_n hx hb dX8_isIn_1 rfl (lv_at hl 1 rfl) ?_
  refine lv_icmp_lt (tgt := 14) hx hb dX8_isIn_2 (by decide) (fun c2_1 => ?_) (fun c2_1 => ?_)
  · skip
    refine lv_iconst (v := 0) hx hb dX8_isIn_14 (by decide) ?_
    exact zret_z C hr rfl hlocks hw dX8_isIn_15 ⟨(by first | rfl | exact (if_pos c2_1).symm | (subst_vars; first | rfl | exact (if_pos c2_1).symm)), (by first | rfl | exact (if_pos c2_1).symm | (subst_vars; first | rfl | exact (if_pos c2_1).symm))⟩
  · skip
    refine lv_iload_n hx hb dX8_isIn_5 rfl (lv_at hl 0 rfl) ?_
    refine lv_iload_n hx hb dX8_isIn_6 rfl (lv_at hl 2 rfl) ?_
    refine lv_icmp_gt (tgt := 14) hx hb dX8_isIn_7 (by decide) (fun c7_2 => ?_) (fun c7_2 => ?_)
    · skip
      refine lv_iconst (v := 0) hx hb dX8_isIn_14 (by decide) ?_
      exact zret_z C hr rfl hlocks hw dX8_isIn_15 ⟨(by first | rfl | exact ((if_neg c2_1).trans (if_pos c7_2)).symm | exact (if_pos c7_2).symm | (subst_vars; first | rfl | exact ((if_neg c2_1).trans (if_pos c7_2)).symm | exact (if_pos c7_2).symm)), (by first | rfl | exact ((if_neg c2_1).trans (if_pos c7_2)).symm | exact (if_pos c7_2).symm | (subst_vars; first | rfl | exact ((if_neg c2_1).trans (if_pos c7_2)).symm | exact (if_pos c7_2).symm))⟩
    · skip
      refine lv_iconst (v := 1) hx hb dX8_isIn_10 (by decide) ?_
      refine lv_goto (tgt := 15) hx hb dX8_isIn_11 (by decide) ?_
      exact zret_z C hr rfl hlocks hw dX8_isIn_15 ⟨(by first | rfl | exact ((if_neg c2_1).trans (if_neg c7_2)).symm | exact (if_neg c7_2).symm | (subst_vars; first | rfl | exact ((if_neg c2_1).trans (if_neg c7_2)).symm | exact (if_neg c7_2).symm)), (by first | rfl | exact ((if_neg c2_1).trans (if_neg c7_2)).symm | exact (if_neg c7_2).symm | (subst_vars; first | rfl | exact ((if_neg c2_1).trans (if_neg c7_2)).symm | exact (if_neg c7_2).symm))⟩

set_option maxHeartbeats 4000000 in
set_option maxRecDepth 100000 in
theorem c_X8_isBox (l : Launch) (D : va_G) (cy : Nat → ClassId) (ad : ZN → Nat) (m : ZM) (sz : Nat) {L : List ZN} (hL : zL L) (x : Int32) : Met l yX8_isBox (zws yX8_isBox cX8_isBox 2 (some .boolean)) ({ frames := 1, cells := 0, slots := 0, locals := 22 } : Room) (zPc D cy ad L m sz [.ref (ad (12, 0, 0)), .int x]) (zQi (fun r m1 => r = q_isIn x 0 (m (13, 0, 0) 4 - 1) ∧ m1 = m) D cy ad L sz) 0 0 (zA ad L sz) := by
  refine zopen (Qc := fun sz => zQi (fun r m1 => r = q_isIn x 0 (m (13, 0, 0) 4 - 1) ∧ m1 = m) D cy ad L sz) RX8 (plainFor_of_name (by decide)) rfl (Nat.le_of_ble_eq_true rfl) ?_
  intro p e s mi below meth c ls C hr hlocks hml hl H locs hw
  obtain ⟨hx, hb, hts, hown, hK, hNw⟩ := id C
  have hl : lv_has ls 2 [(0, .ref (ad (12, 0, 0))), (1, .int x)] := hl
  refine lv_iload_n hx hb dX8_isBox_0 rfl (lv_at hl 1 rfl) ?_
  refine lv_iconst (v := 0) hx hb dX8_isBox_1 (by decide) ?_
  refine lv_aload_n hx hb dX8_isBox_2 rfl (lv_at hl 0 rfl) ?_
  refine zg_X8_10 C hw (zn12 hL) dX8_isBox_3 ?_
  refine zg_X8_41 C hw (zn13 hL (by decide)) dX8_isBox_6 ?_
  refine lv_iconst (v := 1) hx hb dX8_isBox_9 (by decide) ?_
  refine lv_isub hx hb dX8_isBox_10 ?_
  refine zafter_i C hw (zrunS (rest := []) C hml hl.1 hw (c_X8_isIn l D cy ad m H.size x 0 (((m (13, 0, 0) 4) - 1))) zv_X8_27 rfl rfl rfl ⟨Nat.le_of_ble_eq_true rfl, Nat.le_of_ble_eq_true rfl⟩ rfl (Nat.le_of_ble_eq_true rfl) dX8_isBox_11 ⟨Nat.zero_le _, Nat.zero_le _⟩) (fun r3 m2 H locs h1 hw => ?_)
  obtain ⟨er3, h1⟩ := h1
  rw [h1] at hw
  clear h1 m2
  exact zret_z C hr (by rw [er3]; exact q_isIn_b) hlocks hw dX8_isBox_14 ⟨(by first | rfl | (subst_vars; first | rfl)), (by first | rfl | (subst_vars; first | rfl))⟩

set_option maxHeartbeats 4000000 in
set_option maxRecDepth 100000 in
theorem c_X8_setInflow (l : Launch) (D : va_G) (cy : Nat → ClassId) (ad : ZN → Nat) (m : ZM) (sz : Nat) {L : List ZN} (hL : zL L) {bc : Nat} {sc go : Nat → Nat} {hq ln : Nat} (G : gM m bc sc go hq ln) (h x : Int32) : Met l yX8_setInflow (zws yX8_setInflow cX8_setInflow 4 (some .int)) ({ frames := 1, cells := 0, slots := 0, locals := 22 } : Room) (zPc D cy ad L m sz [.ref (ad (12, 0, 0)), .int h, .int x]) (zQi (fun r m1 => r = (q8_setInflow m h x).1 ∧ m1 = (q8_setInflow m h x).2) D cy ad L sz) 0 0 (zA ad L sz) := by
  refine zopen (Qc := fun sz => zQi (fun r m1 => r = (q8_setInflow m h x).1 ∧ m1 = (q8_setInflow m h x).2) D cy ad L sz) RX8 (plainFor_of_name (by decide)) rfl (Nat.le_of_ble_eq_true rfl) ?_
  intro p e s mi below meth c ls C hr hlocks hml hl H locs hw
  obtain ⟨hx, hb, hts, hown, hK, hNw⟩ := id C
  have hl : lv_has ls 4 [(0, .ref (ad (12, 0, 0))), (1, .int h), (2, .int x)] := hl
  refine lv_aload_n hx hb dX8_setInflow_0 rfl (lv_at hl 0 rfl) ?_
  refine lv_iconst (v := 0) hx hb dX8_setInflow_1 (by decide) ?_
  refine zp_X8_23 C hw (zn12 hL) dX8_setInflow_2 (fun H locs m1 em1 hw => ?_)
  have GM1 : gM m1 bc sc go hq ln := by rw [em1]; exact gM_t G
  obtain ⟨⟨hbc1, lbc1, hbx1, hhd1, -, hhq1, lhq1, hld1⟩, hln1, lln1⟩ := id GM1
  refine lv_iload_n hx hb dX8_setInflow_5 rfl (lv_at hl 1 rfl) ?_
  refine lv_iconst (v := 0) hx hb dX8_setInflow_6 (by decide) ?_
  refine lv_bipush (v := 23) hx hb dX8_setInflow_7 (by decide) ?_
  refine zafter_i C hw (zrunS (rest := []) C hml hl.1 hw (c_X8_isIn l D cy ad m1 H.size h 0 23) zv_X8_27 rfl rfl rfl ⟨Nat.le_of_ble_eq_true rfl, Nat.le_of_ble_eq_true rfl⟩ rfl (Nat.le_of_ble_eq_true rfl) dX8_setInflow_9 ⟨Nat.zero_le _, Nat.zero_le _⟩) (fun r4 m3 H locs h2 hw => ?_)
  obtain ⟨er4, h2⟩ := h2
  rw [h2] at hw
  clear h2 m3
  refine lv_if_ne (tgt := 21) hx hb dX8_setInflow_12 (by decide) (fun c12_5 => ?_) (fun c12_5 => ?_)
  · skip
    rw [er4] at c12_5
    obtain ⟨uh, uhl, uhu⟩ := q_isIn_ok (x := h) (a := 0) (b := 23) (by decide) (by decide) (fun q => c12_5 q)
    refine lv_iload_n hx hb dX8_setInflow_21 rfl (lv_at hl 2 rfl) ?_
    refine lv_iconst (v := 0) hx hb dX8_setInflow_22 (by decide) ?_
    refine lv_sipush (v := 900) hx hb dX8_setInflow_23 (by decide) ?_
    refine zafter_i C hw (zrunS (rest := []) C hml hl.1 hw (c_X8_isIn l D cy ad m1 H.size x 0 900) zv_X8_27 rfl rfl rfl ⟨Nat.le_of_ble_eq_true rfl, Nat.le_of_ble_eq_true rfl⟩ rfl (Nat.le_of_ble_eq_true rfl) dX8_setInflow_26 ⟨Nat.zero_le _, Nat.zero_le _⟩) (fun r8 m7 H locs h6 hw => ?_)
    obtain ⟨er8, h6⟩ := h6
    rw [h6] at hw
    clear h6 m7
    refine lv_if_ne (tgt := 38) hx hb dX8_setInflow_29 (by decide) (fun c29_9 => ?_) (fun c29_9 => ?_)
    · skip
      rw [er8] at c29_9
      refine lv_aload_n hx hb dX8_setInflow_38 rfl (lv_at hl 0 rfl) ?_
      refine zg_X8_10 C hw (zn12 hL) dX8_setInflow_39 ?_
      refine zg_X8_35 C hw (zn13 hL (by decide)) dX8_setInflow_42 ?_
      refine lv_iload_n hx hb dX8_setInflow_45 rfl (lv_at hl 1 rfl) ?_
      refine zaldN C hw (zq10 (w := 0) hL (by decide)) h.toNatClampNeg (by omega) uh (by decide) dX8_setInflow_46 ?_
      refine lv_topi (fun x10 ex10 => ?_)
      refine lv_istore_n (lv' := [(3, .int x10), (0, .ref (ad (12, 0, 0))), (1, .int h), (2, .int x)]) hx hb dX8_setInflow_47 rfl hl (by decide) rfl (fun ls hl => ?_)
      refine lv_aload_n hx hb dX8_setInflow_48 rfl (lv_at hl 1 rfl) ?_
      refine zg_X8_10 C hw (zn12 hL) dX8_setInflow_49 ?_
      refine zg_X8_35 C hw (zn13 hL (by decide)) dX8_setInflow_52 ?_
      refine lv_iload_n hx hb dX8_setInflow_55 rfl (lv_at hl 2 rfl) ?_
      refine lv_iload_n hx hb dX8_setInflow_56 rfl (lv_at hl 3 rfl) ?_
      refine zastN C hw (zq10 (w := 0) hL (by decide)) h.toNatClampNeg (by omega) uh (by decide) dX8_setInflow_57 (fun H locs m11 em11 hw => ?_)
      refine lv_iload_n hx hb dX8_setInflow_58 rfl (lv_at hl 0 rfl) ?_
      exact zret_i C hr hlocks hw dX8_setInflow_59 (by subst_vars; exact zpair ((if_neg c12_5).trans (if_neg c29_9)))
    · skip
      rw [er8] at c29_9
      refine lv_aload_n hx hb dX8_setInflow_32 rfl (lv_at hl 0 rfl) ?_
      refine lv_iconst (v := 2) hx hb dX8_setInflow_33 (by decide) ?_
      refine zafter_i C hw (zrunV (rest := []) C hml hl.1 hw (zn12 hL) rfl rfl (c_X8_no l D cy ad m1 H.size hL 2) zv_X8_31 rfl rfl rfl ⟨Nat.le_of_ble_eq_true rfl, Nat.le_of_ble_eq_true rfl⟩ rfl (Nat.le_of_ble_eq_true rfl) dX8_setInflow_34 ⟨Nat.zero_le _, Nat.zero_le _⟩) (fun r14 m13 H locs h12 hw => ?_)
      obtain ⟨er14, em13⟩ := h12
      exact zret_i C hr hlocks hw dX8_setInflow_37 (by subst_vars; exact zpair ((if_neg c12_5).trans (if_pos c29_9)))
  · skip
    rw [er4] at c12_5
    refine lv_aload_n hx hb dX8_setInflow_15 rfl (lv_at hl 0 rfl) ?_
    refine lv_iconst (v := 1) hx hb dX8_setInflow_16 (by decide) ?_
    refine zafter_i C hw (zrunV (rest := []) C hml hl.1 hw (zn12 hL) rfl rfl (c_X8_no l D cy ad m1 H.size hL 1) zv_X8_31 rfl rfl rfl ⟨Nat.le_of_ble_eq_true rfl, Nat.le_of_ble_eq_true rfl⟩ rfl (Nat.le_of_ble_eq_true rfl) dX8_setInflow_17 ⟨Nat.zero_le _, Nat.zero_le _⟩) (fun r17 m16 H locs h15 hw => ?_)
    obtain ⟨er17, em16⟩ := h15
    exact zret_i C hr hlocks hw dX8_setInflow_20 (by subst_vars; exact zpair (if_pos c12_5))

set_option maxHeartbeats 4000000 in
set_option maxRecDepth 100000 in
theorem c_X8_setSluice (l : Launch) (D : va_G) (cy : Nat → ClassId) (ad : ZN → Nat) (m : ZM) (sz : Nat) {L : List ZN} (hL : zL L) {bc : Nat} {sc go : Nat → Nat} {hq ln : Nat} (G : gM m bc sc go hq ln) (x : Int32) : Met l yX8_setSluice (zws yX8_setSluice cX8_setSluice 3 (some .int)) ({ frames := 1, cells := 0, slots := 0, locals := 22 } : Room) (zPc D cy ad L m sz [.ref (ad (12, 0, 0)), .int x]) (zQi (fun r m1 => r = (q8_setSluice m x).1 ∧ m1 = (q8_setSluice m x).2) D cy ad L sz) 0 0 (zA ad L sz) := by
  refine zopen (Qc := fun sz => zQi (fun r m1 => r = (q8_setSluice m x).1 ∧ m1 = (q8_setSluice m x).2) D cy ad L sz) RX8 (plainFor_of_name (by decide)) rfl (Nat.le_of_ble_eq_true rfl) ?_
  intro p e s mi below meth c ls C hr hlocks hml hl H locs hw
  obtain ⟨hx, hb, hts, hown, hK, hNw⟩ := id C
  have hl : lv_has ls 3 [(0, .ref (ad (12, 0, 0))), (1, .int x)] := hl
  refine lv_aload_n hx hb dX8_setSluice_0 rfl (lv_at hl 0 rfl) ?_
  refine lv_iconst (v := 0) hx hb dX8_setSluice_1 (by decide) ?_
  refine zp_X8_23 C hw (zn12 hL) dX8_setSluice_2 (fun H locs m1 em1 hw => ?_)
  have GM1 : gM m1 bc sc go hq ln := by rw [em1]; exact gM_t G
  obtain ⟨⟨hbc1, lbc1, hbx1, hhd1, -, hhq1, lhq1, hld1⟩, hln1, lln1⟩ := id GM1
  refine lv_iload_n hx hb dX8_setSluice_5 rfl (lv_at hl 1 rfl) ?_
  refine lv_iconst (v := 0) hx hb dX8_setSluice_6 (by decide) ?_
  refine lv_bipush (v := 20) hx hb dX8_setSluice_7 (by decide) ?_
  refine zafter_i C hw (zrunS (rest := []) C hml hl.1 hw (c_X8_isIn l D cy ad m1 H.size x 0 20) zv_X8_27 rfl rfl rfl ⟨Nat.le_of_ble_eq_true rfl, Nat.le_of_ble_eq_true rfl⟩ rfl (Nat.le_of_ble_eq_true rfl) dX8_setSluice_9 ⟨Nat.zero_le _, Nat.zero_le _⟩) (fun r4 m3 H locs h2 hw => ?_)
  obtain ⟨er4, h2⟩ := h2
  rw [h2] at hw
  clear h2 m3
  refine lv_if_ne (tgt := 21) hx hb dX8_setSluice_12 (by decide) (fun c12_5 => ?_) (fun c12_5 => ?_)
  · skip
    rw [er4] at c12_5
    refine lv_aload_n hx hb dX8_setSluice_21 rfl (lv_at hl 0 rfl) ?_
    refine zg_X8_10 C hw (zn12 hL) dX8_setSluice_22 ?_
    refine zg_X8_38 C hw (zn13 hL (by decide)) dX8_setSluice_25 ?_
    refine lv_topi (fun x6 ex6 => ?_)
    refine lv_istore_n (lv' := [(2, .int x6), (0, .ref (ad (12, 0, 0))), (1, .int x)]) hx hb dX8_setSluice_28 rfl hl (by decide) rfl (fun ls hl => ?_)
    refine lv_aload_n hx hb dX8_setSluice_29 rfl (lv_at hl 1 rfl) ?_
    refine zg_X8_10 C hw (zn12 hL) dX8_setSluice_30 ?_
    refine lv_iload_n hx hb dX8_setSluice_33 rfl (lv_at hl 2 rfl) ?_
    refine zp_X8_38 C hw (zn13 hL (by decide)) dX8_setSluice_34 (fun H locs m7 em7 hw => ?_)
    refine lv_iload_n hx hb dX8_setSluice_37 rfl (lv_at hl 0 rfl) ?_
    exact zret_i C hr hlocks hw dX8_setSluice_38 (by subst_vars; exact zpair (if_neg c12_5))
  · skip
    rw [er4] at c12_5
    refine lv_aload_n hx hb dX8_setSluice_15 rfl (lv_at hl 0 rfl) ?_
    refine lv_iconst (v := 1) hx hb dX8_setSluice_16 (by decide) ?_
    refine zafter_i C hw (zrunV (rest := []) C hml hl.1 hw (zn12 hL) rfl rfl (c_X8_no l D cy ad m1 H.size hL 1) zv_X8_31 rfl rfl rfl ⟨Nat.le_of_ble_eq_true rfl, Nat.le_of_ble_eq_true rfl⟩ rfl (Nat.le_of_ble_eq_true rfl) dX8_setSluice_17 ⟨Nat.zero_le _, Nat.zero_le _⟩) (fun r10 m9 H locs h8 hw => ?_)
    obtain ⟨er10, em9⟩ := h8
    exact zret_i C hr hlocks hw dX8_setSluice_20 (by subst_vars; exact zpair (if_pos c12_5))

set_option maxHeartbeats 4000000 in
set_option maxRecDepth 100000 in
theorem c_X8_addBox (l : Launch) (D : va_G) (cy : Nat → ClassId) (ad : ZN → Nat) (m : ZM) (sz : Nat) {L : List ZN} (hL : zL L) {bc : Nat} {sc go : Nat → Nat} {hq ln : Nat} (G : gM m bc sc go hq ln) : Met l yX8_addBox (zws yX8_addBox cX8_addBox 1 (some .int)) ({ frames := 1, cells := 0, slots := 0, locals := 21 } : Room) (zPc D cy ad L m sz [.ref (ad (12, 0, 0))]) (zQi (fun r m1 => r = (q8_addBox m bc).1 ∧ m1 = (q8_addBox m bc).2) D cy ad L sz) 0 0 (zA ad L sz) := by
  refine zopen (Qc := fun sz => zQi (fun r m1 => r = (q8_addBox m bc).1 ∧ m1 = (q8_addBox m bc).2) D cy ad L sz) RX8 (plainFor_of_name (by decide)) rfl (Nat.le_of_ble_eq_true rfl) ?_
  intro p e s mi below meth c ls C hr hlocks hml hl H locs hw
  obtain ⟨hx, hb, hts, hown, hK, hNw⟩ := id C
  have hl : lv_has ls 1 [(0, .ref (ad (12, 0, 0)))] := hl
  refine lv_aload_n hx hb dX8_addBox_0 rfl (lv_at hl 0 rfl) ?_
  refine lv_iconst (v := 0) hx hb dX8_addBox_1 (by decide) ?_
  refine zp_X8_23 C hw (zn12 hL) dX8_addBox_2 (fun H locs m1 em1 hw => ?_)
  have GM1 : gM m1 bc sc go hq ln := by rw [em1]; exact gM_t G
  obtain ⟨⟨hbc1, lbc1, hbx1, hhd1, -, hhq1, lhq1, hld1⟩, hln1, lln1⟩ := id GM1
  refine lv_aload_n hx hb dX8_addBox_5 rfl (lv_at hl 0 rfl) ?_
  refine zg_X8_10 C hw (zn12 hL) dX8_addBox_6 ?_
  refine zg_X8_41 C hw (zn13 hL (by decide)) dX8_addBox_9 ?_
  refine ztop hbc1 ?_
  refine lv_iconst (v := 4) hx hb dX8_addBox_12 (by decide) ?_
  refine lv_icmp_ne (tgt := 22) hx hb dX8_addBox_13 (by decide) (fun c13_2 => ?_) (fun c13_2 => ?_)
  · skip
    have n3 := zne c13_2 (a := bc) (b := 4) rfl rfl (by omega) (by omega)
    refine lv_aload_n hx hb dX8_addBox_22 rfl (lv_at hl 0 rfl) ?_
    refine zg_X8_10 C hw (zn12 hL) dX8_addBox_23 ?_
    refine zg_X8_44 C hw (zn13 hL (by decide)) dX8_addBox_26 ?_
    refine lv_aload_n hx hb dX8_addBox_29 rfl (lv_at hl 0 rfl) ?_
    refine zg_X8_10 C hw (zn12 hL) dX8_addBox_30 ?_
    refine zg_X8_41 C hw (zn13 hL (by decide)) dX8_addBox_33 ?_
    refine ztop hbc1 ?_
    refine lv_bipush (v := 50) hx hb dX8_addBox_36 (by decide) ?_
    refine zastN C hw (zq15 (w := 0) hL (by decide)) bc (by omega) rfl (by decide) dX8_addBox_38 (fun H locs m4 em4 hw => ?_)
    have h2 : m4 (13, 0, 0) 4 = nI bc := by rw [em4, zs_k (zk rfl)]; exact hbc1
    refine lv_aload_n hx hb dX8_addBox_39 rfl (lv_at hl 0 rfl) ?_
    refine zg_X8_10 C hw (zn12 hL) dX8_addBox_40 ?_
    refine zg_X8_47 C hw (zn13 hL (by decide)) dX8_addBox_43 ?_
    refine lv_aload_n hx hb dX8_addBox_46 rfl (lv_at hl 0 rfl) ?_
    refine zg_X8_10 C hw (zn12 hL) dX8_addBox_47 ?_
    refine zg_X8_41 C hw (zn13 hL (by decide)) dX8_addBox_50 ?_
    refine ztop h2 ?_
    refine lv_iconst (v := 5) hx hb dX8_addBox_53 (by decide) ?_
    refine zastN C hw (zq17 (w := 0) hL (by decide)) bc (by omega) rfl (by decide) dX8_addBox_54 (fun H locs m5 em5 hw => ?_)
    refine lv_aload_n hx hb dX8_addBox_55 rfl (lv_at hl 0 rfl) ?_
    refine zg_X8_10 C hw (zn12 hL) dX8_addBox_56 ?_
    refine lv_dup hx hb dX8_addBox_59 rfl ?_
    refine zg_X8_41 C hw (zn13 hL (by decide)) dX8_addBox_60 ?_
    refine lv_iconst (v := 1) hx hb dX8_addBox_63 (by decide) ?_
    refine lv_iadd hx hb dX8_addBox_64 ?_
    refine zp_X8_41 C hw (zn13 hL (by decide)) dX8_addBox_65 (fun H locs m6 em6 hw => ?_)
    refine lv_aload_n hx hb dX8_addBox_68 rfl (lv_at hl 0 rfl) ?_
    refine zg_X8_10 C hw (zn12 hL) dX8_addBox_69 ?_
    refine zg_X8_41 C hw (zn13 hL (by decide)) dX8_addBox_72 ?_
    refine lv_iconst (v := 1) hx hb dX8_addBox_75 (by decide) ?_
    refine lv_isub hx hb dX8_addBox_76 ?_
    exact zret_i C hr hlocks hw dX8_addBox_77 (by subst_vars; exact zpair (if_neg c13_2))
  · skip
    have n7 := zeq c13_2 (a := bc) (b := 4) rfl rfl (by omega) (by omega)
    refine lv_aload_n hx hb dX8_addBox_16 rfl (lv_at hl 0 rfl) ?_
    refine lv_iconst (v := 1) hx hb dX8_addBox_17 (by decide) ?_
    refine zafter_i C hw (zrunV (rest := []) C hml hl.1 hw (zn12 hL) rfl rfl (c_X8_no l D cy ad m1 H.size hL 1) zv_X8_31 rfl rfl rfl ⟨Nat.le_of_ble_eq_true rfl, Nat.le_of_ble_eq_true rfl⟩ rfl (Nat.le_of_ble_eq_true rfl) dX8_addBox_18 ⟨Nat.zero_le _, Nat.zero_le _⟩) (fun r10 m9 H locs h8 hw => ?_)
    obtain ⟨er10, em9⟩ := h8
    exact zret_i C hr hlocks hw dX8_addBox_21 (by subst_vars; exact zpair (if_pos c13_2))

set_option maxHeartbeats 4000000 in
set_option maxRecDepth 100000 in
theorem c_X8_hang (l : Launch) (D : va_G) (cy : Nat → ClassId) (ad : ZN → Nat) (m : ZM) (sz : Nat) {L : List ZN} (hL : zL L) {bc : Nat} {sc go : Nat → Nat} {hq ln : Nat} (G : gM m bc sc go hq ln) (b x y : Int32) : Met l yX8_hang (zws yX8_hang cX8_hang 5 (some .int)) ({ frames := 2, cells := 0, slots := 0, locals := 43 } : Room) (zPc D cy ad L m sz [.ref (ad (12, 0, 0)), .int b, .int x, .int y]) (zQi (fun r m1 => r = (q8_hang m sc b x y).1 ∧ m1 = (q8_hang m sc b x y).2) D cy ad L sz) 0 0 (zA ad L sz) := by
  refine zopen (Qc := fun sz => zQi (fun r m1 => r = (q8_hang m sc b x y).1 ∧ m1 = (q8_hang m sc b x y).2) D cy ad L sz) RX8 (plainFor_of_name (by decide)) rfl (Nat.le_of_ble_eq_true rfl) ?_
  intro p e s mi below meth c ls C hr hlocks hml hl H locs hw
  obtain ⟨hx, hb, hts, hown, hK, hNw⟩ := id C
  have hl : lv_has ls 5 [(0, .ref (ad (12, 0, 0))), (1, .int b), (2, .int x), (3, .int y)] := hl
  refine lv_aload_n hx hb dX8_hang_0 rfl (lv_at hl 0 rfl) ?_
  refine lv_iconst (v := 0) hx hb dX8_hang_1 (by decide) ?_
  refine zp_X8_23 C hw (zn12 hL) dX8_hang_2 (fun H locs m1 em1 hw => ?_)
  have GM1 : gM m1 bc sc go hq ln := by rw [em1]; exact gM_t G
  obtain ⟨⟨hbc1, lbc1, hbx1, hhd1, -, hhq1, lhq1, hld1⟩, hln1, lln1⟩ := id GM1
  refine lv_aload_n hx hb dX8_hang_5 rfl (lv_at hl 0 rfl) ?_
  refine lv_iload_n hx hb dX8_hang_6 rfl (lv_at hl 1 rfl) ?_
  refine zafter_i C hw (zrunV (rest := []) C hml hl.1 hw (zn12 hL) rfl rfl (c_X8_isBox l D cy ad m1 H.size hL b) zv_X8_50 rfl rfl rfl ⟨Nat.le_of_ble_eq_true rfl, Nat.le_of_ble_eq_true rfl⟩ rfl (Nat.le_of_ble_eq_true rfl) dX8_hang_7 ⟨Nat.zero_le _, Nat.zero_le _⟩) (fun r4 m3 H locs h2 hw => ?_)
  obtain ⟨er4, h2⟩ := h2
  rw [h2] at hw
  clear h2 m3
  refine lv_if_ne (tgt := 19) hx hb dX8_hang_10 (by decide) (fun c10_5 => ?_) (fun c10_5 => ?_)
  · skip
    rw [er4] at c10_5
    obtain ⟨ub, ubu⟩ := q_isIn_box (x := b) (n := bc) (by omega) (fun q => c10_5 (by rw [hbc1]; exact q))
    refine lv_iload_n hx hb dX8_hang_19 rfl (lv_at hl 2 rfl) ?_
    refine lv_bipush (v := 10) hx hb dX8_hang_20 (by decide) ?_
    refine lv_bipush (v := 60) hx hb dX8_hang_22 (by decide) ?_
    refine zafter_i C hw (zrunS (rest := []) C hml hl.1 hw (c_X8_isIn l D cy ad m1 H.size x 10 60) zv_X8_27 rfl rfl rfl ⟨Nat.le_of_ble_eq_true rfl, Nat.le_of_ble_eq_true rfl⟩ rfl (Nat.le_of_ble_eq_true rfl) dX8_hang_24 ⟨Nat.zero_le _, Nat.zero_le _⟩) (fun r8 m7 H locs h6 hw => ?_)
    obtain ⟨er8, h6⟩ := h6
    rw [h6] at hw
    clear h6 m7
    refine lv_if_eq (tgt := 39) hx hb dX8_hang_27 (by decide) (fun c27_9 => ?_) (fun c27_9 => ?_)
    · skip
      rw [er8] at c27_9
      refine lv_aload_n hx hb dX8_hang_39 rfl (lv_at hl 0 rfl) ?_
      refine lv_iconst (v := 2) hx hb dX8_hang_40 (by decide) ?_
      refine zafter_i C hw (zrunV (rest := []) C hml hl.1 hw (zn12 hL) rfl rfl (c_X8_no l D cy ad m1 H.size hL 2) zv_X8_31 rfl rfl rfl ⟨Nat.le_of_ble_eq_true rfl, Nat.le_of_ble_eq_true rfl⟩ rfl (Nat.le_of_ble_eq_true rfl) dX8_hang_41 ⟨Nat.zero_le _, Nat.zero_le _⟩) (fun r12 m11 H locs h10 hw => ?_)
      obtain ⟨er12, em11⟩ := h10
      exact zret_i C hr hlocks hw dX8_hang_44 (by subst_vars; exact zpair ((if_neg c10_5).trans (if_pos c27_9)))
    · skip
      rw [er8] at c27_9
      refine lv_iload_n hx hb dX8_hang_30 rfl (lv_at hl 3 rfl) ?_
      refine lv_iconst (v := 1) hx hb dX8_hang_31 (by decide) ?_
      refine lv_iconst (v := 4) hx hb dX8_hang_32 (by decide) ?_
      refine zafter_i C hw (zrunS (rest := []) C hml hl.1 hw (c_X8_isIn l D cy ad m1 H.size y 1 4) zv_X8_27 rfl rfl rfl ⟨Nat.le_of_ble_eq_true rfl, Nat.le_of_ble_eq_true rfl⟩ rfl (Nat.le_of_ble_eq_true rfl) dX8_hang_33 ⟨Nat.zero_le _, Nat.zero_le _⟩) (fun r15 m14 H locs h13 hw => ?_)
      obtain ⟨er15, h13⟩ := h13
      rw [h13] at hw
      clear h13 m14
      refine lv_if_ne (tgt := 45) hx hb dX8_hang_36 (by decide) (fun c36_16 => ?_) (fun c36_16 => ?_)
      · skip
        rw [er15] at c36_16
        have lsc := (hbx1 b.toNatClampNeg (by omega)).2.1
        refine lv_aload_n hx hb dX8_hang_45 rfl (lv_at hl 0 rfl) ?_
        refine zg_X8_10 C hw (zn12 hL) dX8_hang_46 ?_
        refine zg_X8_54 C hw (zn13 hL (by decide)) dX8_hang_49 ?_
        refine lv_iload_n hx hb dX8_hang_52 rfl (lv_at hl 1 rfl) ?_
        refine zaldN C hw (zq11 (w := 0) hL (by decide)) b.toNatClampNeg (by omega) ub (by decide) dX8_hang_53 ?_
        refine ztop (hbx1 b.toNatClampNeg (by omega)).1 ?_
        refine lv_iconst (v := 4) hx hb dX8_hang_54 (by decide) ?_
        refine lv_icmp_ne (tgt := 64) hx hb dX8_hang_55 (by decide) (fun c55_17 => ?_) (fun c55_17 => ?_)
        · skip
          have n18 := zne c55_17 (a := (sc b.toNatClampNeg)) (b := 4) rfl rfl (by omega) (by omega)
          refine lv_iconst (v := 4) hx hb dX8_hang_64 (by decide) ?_
          refine lv_iload_n hx hb dX8_hang_65 rfl (lv_at hl 1 rfl) ?_
          refine lv_imul hx hb dX8_hang_66 ?_
          refine lv_aload_n hx hb dX8_hang_67 rfl (lv_at hl 0 rfl) ?_
          refine zg_X8_10 C hw (zn12 hL) dX8_hang_68 ?_
          refine zg_X8_54 C hw (zn13 hL (by decide)) dX8_hang_71 ?_
          refine lv_iload_n hx hb dX8_hang_74 rfl (lv_at hl 1 rfl) ?_
          refine zaldN C hw (zq11 (w := 0) hL (by decide)) b.toNatClampNeg (by omega) ub (by decide) dX8_hang_75 ?_
          refine ztop (hbx1 b.toNatClampNeg (by omega)).1 ?_
          refine lv_iadd hx hb dX8_hang_76 ?_
          refine ztop (y := nI ((4 * b.toNatClampNeg) + (sc b.toNatClampNeg))) (zadd (zmul rfl ub) rfl) ?_
          refine lv_istore (lv' := [(4, .int (nI ((4 * b.toNatClampNeg) + (sc b.toNatClampNeg)))), (0, .ref (ad (12, 0, 0))), (1, .int b), (2, .int x), (3, .int y)]) hx hb dX8_hang_77 hl (by decide) rfl (fun ls hl => ?_)
          refine lv_aload_n hx hb dX8_hang_79 rfl (lv_at hl 1 rfl) ?_
          refine zg_X8_10 C hw (zn12 hL) dX8_hang_80 ?_
          refine zg_X8_57 C hw (zn13 hL (by decide)) dX8_hang_83 ?_
          refine lv_iload hx hb dX8_hang_86 (lv_at hl 0 rfl) ?_
          refine lv_iload_n hx hb dX8_hang_88 rfl (lv_at hl 3 rfl) ?_
          refine zastN C hw (zq12 (w := 0) hL (by decide)) ((4 * b.toNatClampNeg) + (sc b.toNatClampNeg)) (by omega) rfl (by decide) dX8_hang_89 (fun H locs m19 em19 hw => ?_)
          refine lv_aload_n hx hb dX8_hang_90 rfl (lv_at hl 1 rfl) ?_
          refine zg_X8_10 C hw (zn12 hL) dX8_hang_91 ?_
          refine zg_X8_60 C hw (zn13 hL (by decide)) dX8_hang_94 ?_
          refine lv_iload hx hb dX8_hang_97 (lv_at hl 0 rfl) ?_
          refine lv_iload_n hx hb dX8_hang_99 rfl (lv_at hl 4 rfl) ?_
          refine zastN C hw (zq13 (w := 0) hL (by decide)) ((4 * b.toNatClampNeg) + (sc b.toNatClampNeg)) (by omega) rfl (by decide) dX8_hang_100 (fun H locs m20 em20 hw => ?_)
          refine lv_aload_n hx hb dX8_hang_101 rfl (lv_at hl 1 rfl) ?_
          refine zg_X8_10 C hw (zn12 hL) dX8_hang_102 ?_
          refine zg_X8_63 C hw (zn13 hL (by decide)) dX8_hang_105 ?_
          refine lv_iload hx hb dX8_hang_108 (lv_at hl 0 rfl) ?_
          refine lv_iconst (v := 0) hx hb dX8_hang_110 (by decide) ?_
          refine zastN C hw (zq14 (w := 0) hL (by decide)) ((4 * b.toNatClampNeg) + (sc b.toNatClampNeg)) (by omega) rfl (by decide) dX8_hang_111 (fun H locs m21 em21 hw => ?_)
          refine lv_aload_n hx hb dX8_hang_112 rfl (lv_at hl 1 rfl) ?_
          refine zg_X8_10 C hw (zn12 hL) dX8_hang_113 ?_
          refine zg_X8_54 C hw (zn13 hL (by decide)) dX8_hang_116 ?_
          refine lv_iload_n hx hb dX8_hang_119 rfl (lv_at hl 2 rfl) ?_
          refine lv_dup2_11 hx hb dX8_hang_120 rfl rfl ?_
          refine zaldN C hw (zq11 (w := 0) hL (by decide)) b.toNatClampNeg (by omega) ub (by decide) dX8_hang_121 ?_
          refine lv_iconst (v := 1) hx hb dX8_hang_122 (by decide) ?_
          refine lv_iadd hx hb dX8_hang_123 ?_
          refine zastN C hw (zq11 (w := 0) hL (by decide)) b.toNatClampNeg (by omega) ub (by decide) dX8_hang_124 (fun H locs m22 em22 hw => ?_)
          refine lv_aload_n hx hb dX8_hang_125 rfl (lv_at hl 1 rfl) ?_
          refine zg_X8_10 C hw (zn12 hL) dX8_hang_126 ?_
          refine zg_X8_54 C hw (zn13 hL (by decide)) dX8_hang_129 ?_
          refine lv_iload_n hx hb dX8_hang_132 rfl (lv_at hl 2 rfl) ?_
          refine zaldN C hw (zq11 (w := 0) hL (by decide)) b.toNatClampNeg (by omega) ub (by decide) dX8_hang_133 ?_
          exact zret_i C hr hlocks hw dX8_hang_134 (by subst_vars; exact zpair ((if_neg c10_5).trans ((if_neg c27_9).trans ((if_neg c36_16).trans (if_neg c55_17)))))
        · skip
          have n23 := zeq c55_17 (a := (sc b.toNatClampNeg)) (b := 4) rfl rfl (by omega) (by omega)
          refine lv_aload_n hx hb dX8_hang_58 rfl (lv_at hl 0 rfl) ?_
          refine lv_iconst (v := 3) hx hb dX8_hang_59 (by decide) ?_
          refine zafter_i C hw (zrunV (rest := []) C hml hl.1 hw (zn12 hL) rfl rfl (c_X8_no l D cy ad m1 H.size hL 3) zv_X8_31 rfl rfl rfl ⟨Nat.le_of_ble_eq_true rfl, Nat.le_of_ble_eq_true rfl⟩ rfl (Nat.le_of_ble_eq_true rfl) dX8_hang_60 ⟨Nat.zero_le _, Nat.zero_le _⟩) (fun r26 m25 H locs h24 hw => ?_)
          obtain ⟨er26, em25⟩ := h24
          exact zret_i C hr hlocks hw dX8_hang_63 (by subst_vars; exact zpair ((if_neg c10_5).trans ((if_neg c27_9).trans ((if_neg c36_16).trans (if_pos c55_17)))))
      · skip
        rw [er15] at c36_16
        refine lv_aload_n hx hb dX8_hang_39 rfl (lv_at hl 0 rfl) ?_
        refine lv_iconst (v := 2) hx hb dX8_hang_40 (by decide) ?_
        refine zafter_i C hw (zrunV (rest := []) C hml hl.1 hw (zn12 hL) rfl rfl (c_X8_no l D cy ad m1 H.size hL 2) zv_X8_31 rfl rfl rfl ⟨Nat.le_of_ble_eq_true rfl, Nat.le_of_ble_eq_true rfl⟩ rfl (Nat.le_of_ble_eq_true rfl) dX8_hang_41 ⟨Nat.zero_le _, Nat.zero_le _⟩) (fun r29 m28 H locs h27 hw => ?_)
        obtain ⟨er29, em28⟩ := h27
        exact zret_i C hr hlocks hw dX8_hang_44 (by subst_vars; exact zpair ((if_neg c10_5).trans ((if_neg c27_9).trans (if_pos c36_16))))
  · skip
    rw [er4] at c10_5
    refine lv_aload_n hx hb dX8_hang_13 rfl (lv_at hl 0 rfl) ?_
    refine lv_iconst (v := 1) hx hb dX8_hang_14 (by decide) ?_
    refine zafter_i C hw (zrunV (rest := []) C hml hl.1 hw (zn12 hL) rfl rfl (c_X8_no l D cy ad m1 H.size hL 1) zv_X8_31 rfl rfl rfl ⟨Nat.le_of_ble_eq_true rfl, Nat.le_of_ble_eq_true rfl⟩ rfl (Nat.le_of_ble_eq_true rfl) dX8_hang_15 ⟨Nat.zero_le _, Nat.zero_le _⟩) (fun r32 m31 H locs h30 hw => ?_)
    obtain ⟨er32, em31⟩ := h30
    exact zret_i C hr hlocks hw dX8_hang_18 (by subst_vars; exact zpair (if_pos c10_5))

set_option maxHeartbeats 4000000 in
set_option maxRecDepth 100000 in
theorem c_X8_shoe (l : Launch) (D : va_G) (cy : Nat → ClassId) (ad : ZN → Nat) (m : ZM) (sz : Nat) {L : List ZN} (hL : zL L) {bc : Nat} {sc go : Nat → Nat} {hq ln : Nat} (G : gM m bc sc go hq ln) (b k : Int32) : Met l yX8_shoe (zws yX8_shoe cX8_shoe 4 (some .int)) ({ frames := 2, cells := 0, slots := 0, locals := 43 } : Room) (zPc D cy ad L m sz [.ref (ad (12, 0, 0)), .int b, .int k]) (zQi (fun r m1 => r = (q8_shoe m sc b k).1 ∧ m1 = (q8_shoe m sc b k).2) D cy ad L sz) 0 0 (zA ad L sz) := by
  refine zopen (Qc := fun sz => zQi (fun r m1 => r = (q8_shoe m sc b k).1 ∧ m1 = (q8_shoe m sc b k).2) D cy ad L sz) RX8 (plainFor_of_name (by decide)) rfl (Nat.le_of_ble_eq_true rfl) ?_
  intro p e s mi below meth c ls C hr hlocks hml hl H locs hw
  obtain ⟨hx, hb, hts, hown, hK, hNw⟩ := id C
  have hl : lv_has ls 4 [(0, .ref (ad (12, 0, 0))), (1, .int b), (2, .int k)] := hl
  refine lv_aload_n hx hb dX8_shoe_0 rfl (lv_at hl 0 rfl) ?_
  refine lv_iconst (v := 0) hx hb dX8_shoe_1 (by decide) ?_
  refine zp_X8_23 C hw (zn12 hL) dX8_shoe_2 (fun H locs m1 em1 hw => ?_)
  have GM1 : gM m1 bc sc go hq ln := by rw [em1]; exact gM_t G
  obtain ⟨⟨hbc1, lbc1, hbx1, hhd1, -, hhq1, lhq1, hld1⟩, hln1, lln1⟩ := id GM1
  refine lv_aload_n hx hb dX8_shoe_5 rfl (lv_at hl 0 rfl) ?_
  refine lv_iload_n hx hb dX8_shoe_6 rfl (lv_at hl 1 rfl) ?_
  refine zafter_i C hw (zrunV (rest := []) C hml hl.1 hw (zn12 hL) rfl rfl (c_X8_isBox l D cy ad m1 H.size hL b) zv_X8_50 rfl rfl rfl ⟨Nat.le_of_ble_eq_true rfl, Nat.le_of_ble_eq_true rfl⟩ rfl (Nat.le_of_ble_eq_true rfl) dX8_shoe_7 ⟨Nat.zero_le _, Nat.zero_le _⟩) (fun r4 m3 H locs h2 hw => ?_)
  obtain ⟨er4, h2⟩ := h2
  rw [h2] at hw
  clear h2 m3
  refine lv_if_eq (tgt := 32) hx hb dX8_shoe_10 (by decide) (fun c10_5 => ?_) (fun c10_5 => ?_)
  · skip
    rw [er4] at c10_5
    refine lv_aload_n hx hb dX8_shoe_32 rfl (lv_at hl 0 rfl) ?_
    refine lv_iconst (v := 1) hx hb dX8_shoe_33 (by decide) ?_
    refine zafter_i C hw (zrunV (rest := []) C hml hl.1 hw (zn12 hL) rfl rfl (c_X8_no l D cy ad m1 H.size hL 1) zv_X8_31 rfl rfl rfl ⟨Nat.le_of_ble_eq_true rfl, Nat.le_of_ble_eq_true rfl⟩ rfl (Nat.le_of_ble_eq_true rfl) dX8_shoe_34 ⟨Nat.zero_le _, Nat.zero_le _⟩) (fun r8 m7 H locs h6 hw => ?_)
    obtain ⟨er8, em7⟩ := h6
    exact zret_i C hr hlocks hw dX8_shoe_37 (by subst_vars; exact zpair (if_pos c10_5))
  · skip
    rw [er4] at c10_5
    obtain ⟨ub, ubu⟩ := q_isIn_box (x := b) (n := bc) (by omega) (fun q => c10_5 (by rw [hbc1]; exact q))
    have lsc := (hbx1 b.toNatClampNeg (by omega)).2.1
    refine lv_iload_n hx hb dX8_shoe_13 rfl (lv_at hl 2 rfl) ?_
    refine lv_iconst (v := 0) hx hb dX8_shoe_14 (by decide) ?_
    refine lv_aload_n hx hb dX8_shoe_15 rfl (lv_at hl 0 rfl) ?_
    refine zg_X8_10 C hw (zn12 hL) dX8_shoe_16 ?_
    refine zg_X8_54 C hw (zn13 hL (by decide)) dX8_shoe_19 ?_
    refine lv_iload_n hx hb dX8_shoe_22 rfl (lv_at hl 1 rfl) ?_
    refine zaldN C hw (zq11 (w := 0) hL (by decide)) b.toNatClampNeg (by omega) ub (by decide) dX8_shoe_23 ?_
    refine ztop (hbx1 b.toNatClampNeg (by omega)).1 ?_
    refine lv_iconst (v := 1) hx hb dX8_shoe_24 (by decide) ?_
    refine lv_isub hx hb dX8_shoe_25 ?_
    refine zafter_i C hw (zrunS (rest := []) C hml hl.1 hw (c_X8_isIn l D cy ad m1 H.size k 0 (((nI (sc b.toNatClampNeg)) - 1))) zv_X8_27 rfl rfl rfl ⟨Nat.le_of_ble_eq_true rfl, Nat.le_of_ble_eq_true rfl⟩ rfl (Nat.le_of_ble_eq_true rfl) dX8_shoe_26 ⟨Nat.zero_le _, Nat.zero_le _⟩) (fun r11 m10 H locs h9 hw => ?_)
    obtain ⟨er11, h9⟩ := h9
    rw [h9] at hw
    clear h9 m10
    refine lv_if_ne (tgt := 38) hx hb dX8_shoe_29 (by decide) (fun c29_12 => ?_) (fun c29_12 => ?_)
    · skip
      rw [er11] at c29_12
      obtain ⟨uk, uku⟩ := q_isIn_box (x := k) (n := sc b.toNatClampNeg) (by omega) (fun q => c29_12 q)
      refine lv_aload_n hx hb dX8_shoe_38 rfl (lv_at hl 0 rfl) ?_
      refine zg_X8_10 C hw (zn12 hL) dX8_shoe_39 ?_
      refine zg_X8_63 C hw (zn13 hL (by decide)) dX8_shoe_42 ?_
      refine lv_iconst (v := 4) hx hb dX8_shoe_45 (by decide) ?_
      refine lv_iload_n hx hb dX8_shoe_46 rfl (lv_at hl 1 rfl) ?_
      refine lv_imul hx hb dX8_shoe_47 ?_
      refine lv_iload_n hx hb dX8_shoe_48 rfl (lv_at hl 2 rfl) ?_
      refine lv_iadd hx hb dX8_shoe_49 ?_
      refine zaldN C hw (zq14 (w := 0) hL (by decide)) ((4 * b.toNatClampNeg) + k.toNatClampNeg) (by omega) (zadd (zmul rfl ub) uk) (by decide) dX8_shoe_50 ?_
      refine lv_topi (fun x13 ex13 => ?_)
      refine lv_istore_n (lv' := [(3, .int x13), (0, .ref (ad (12, 0, 0))), (1, .int b), (2, .int k)]) hx hb dX8_shoe_51 rfl hl (by decide) rfl (fun ls hl => ?_)
      refine lv_aload_n hx hb dX8_shoe_52 rfl (lv_at hl 1 rfl) ?_
      refine zg_X8_10 C hw (zn12 hL) dX8_shoe_53 ?_
      refine zg_X8_63 C hw (zn13 hL (by decide)) dX8_shoe_56 ?_
      refine lv_iconst (v := 4) hx hb dX8_shoe_59 (by decide) ?_
      refine lv_iload_n hx hb dX8_shoe_60 rfl (lv_at hl 2 rfl) ?_
      refine lv_imul hx hb dX8_shoe_61 ?_
      refine lv_iload_n hx hb dX8_shoe_62 rfl (lv_at hl 3 rfl) ?_
      refine lv_iadd hx hb dX8_shoe_63 ?_
      refine lv_iconst (v := 0) hx hb dX8_shoe_64 (by decide) ?_
      refine zastN C hw (zq14 (w := 0) hL (by decide)) ((4 * b.toNatClampNeg) + k.toNatClampNeg) (by omega) (zadd (zmul rfl ub) uk) (by decide) dX8_shoe_65 (fun H locs m14 em14 hw => ?_)
      refine lv_iload_n hx hb dX8_shoe_66 rfl (lv_at hl 0 rfl) ?_
      exact zret_i C hr hlocks hw dX8_shoe_67 (by subst_vars; exact zpair ((if_neg c10_5).trans (if_neg c29_12)))
    · skip
      rw [er11] at c29_12
      refine lv_aload_n hx hb dX8_shoe_32 rfl (lv_at hl 0 rfl) ?_
      refine lv_iconst (v := 1) hx hb dX8_shoe_33 (by decide) ?_
      refine zafter_i C hw (zrunV (rest := []) C hml hl.1 hw (zn12 hL) rfl rfl (c_X8_no l D cy ad m1 H.size hL 1) zv_X8_31 rfl rfl rfl ⟨Nat.le_of_ble_eq_true rfl, Nat.le_of_ble_eq_true rfl⟩ rfl (Nat.le_of_ble_eq_true rfl) dX8_shoe_34 ⟨Nat.zero_le _, Nat.zero_le _⟩) (fun r17 m16 H locs h15 hw => ?_)
      obtain ⟨er17, em16⟩ := h15
      exact zret_i C hr hlocks hw dX8_shoe_37 (by subst_vars; exact zpair ((if_neg c10_5).trans (if_pos c29_12)))

set_option maxHeartbeats 4000000 in
set_option maxRecDepth 100000 in
theorem c_X8_setBox (l : Launch) (D : va_G) (cy : Nat → ClassId) (ad : ZN → Nat) (m : ZM) (sz : Nat) {L : List ZN} (hL : zL L) {bc : Nat} {sc go : Nat → Nat} {hq ln : Nat} (G : gM m bc sc go hq ln) (b x y : Int32) : Met l yX8_setBox (zws yX8_setBox cX8_setBox 5 (some .int)) ({ frames := 2, cells := 0, slots := 0, locals := 43 } : Room) (zPc D cy ad L m sz [.ref (ad (12, 0, 0)), .int b, .int x, .int y]) (zQi (fun r m1 => r = (q8_setBox m b x y).1 ∧ m1 = (q8_setBox m b x y).2) D cy ad L sz) 0 0 (zA ad L sz) := by
  refine zopen (Qc := fun sz => zQi (fun r m1 => r = (q8_setBox m b x y).1 ∧ m1 = (q8_setBox m b x y).2) D cy ad L sz) RX8 (plainFor_of_name (by decide)) rfl (Nat.le_of_ble_eq_true rfl) ?_
  intro p e s mi below meth c ls C hr hlocks hml hl H locs hw
  obtain ⟨hx, hb, hts, hown, hK, hNw⟩ := id C
  have hl : lv_has ls 5 [(0, .ref (ad (12, 0, 0))), (1, .int b), (2, .int x), (3, .int y)] := hl
  refine lv_aload_n hx hb dX8_setBox_0 rfl (lv_at hl 0 rfl) ?_
  refine lv_iconst (v := 0) hx hb dX8_setBox_1 (by decide) ?_
  refine zp_X8_23 C hw (zn12 hL) dX8_setBox_2 (fun H locs m1 em1 hw => ?_)
  have GM1 : gM m1 bc sc go hq ln := by rw [em1]; exact gM_t G
  obtain ⟨⟨hbc1, lbc1, hbx1, hhd1, -, hhq1, lhq1, hld1⟩, hln1, lln1⟩ := id GM1
  refine lv_aload_n hx hb dX8_setBox_5 rfl (lv_at hl 0 rfl) ?_
  refine lv_iload_n hx hb dX8_setBox_6 rfl (lv_at hl 1 rfl) ?_
  refine zafter_i C hw (zrunV (rest := []) C hml hl.1 hw (zn12 hL) rfl rfl (c_X8_isBox l D cy ad m1 H.size hL b) zv_X8_50 rfl rfl rfl ⟨Nat.le_of_ble_eq_true rfl, Nat.le_of_ble_eq_true rfl⟩ rfl (Nat.le_of_ble_eq_true rfl) dX8_setBox_7 ⟨Nat.zero_le _, Nat.zero_le _⟩) (fun r4 m3 H locs h2 hw => ?_)
  obtain ⟨er4, h2⟩ := h2
  rw [h2] at hw
  clear h2 m3
  refine lv_if_ne (tgt := 19) hx hb dX8_setBox_10 (by decide) (fun c10_5 => ?_) (fun c10_5 => ?_)
  · skip
    rw [er4] at c10_5
    obtain ⟨ub, ubu⟩ := q_isIn_box (x := b) (n := bc) (by omega) (fun q => c10_5 (by rw [hbc1]; exact q))
    refine lv_iload_n hx hb dX8_setBox_19 rfl (lv_at hl 2 rfl) ?_
    refine lv_iconst (v := 0) hx hb dX8_setBox_20 (by decide) ?_
    refine lv_sipush (v := 300) hx hb dX8_setBox_21 (by decide) ?_
    refine zafter_i C hw (zrunS (rest := []) C hml hl.1 hw (c_X8_isIn l D cy ad m1 H.size x 0 300) zv_X8_27 rfl rfl rfl ⟨Nat.le_of_ble_eq_true rfl, Nat.le_of_ble_eq_true rfl⟩ rfl (Nat.le_of_ble_eq_true rfl) dX8_setBox_24 ⟨Nat.zero_le _, Nat.zero_le _⟩) (fun r8 m7 H locs h6 hw => ?_)
    obtain ⟨er8, h6⟩ := h6
    rw [h6] at hw
    clear h6 m7
    refine lv_if_eq (tgt := 39) hx hb dX8_setBox_27 (by decide) (fun c27_9 => ?_) (fun c27_9 => ?_)
    · skip
      rw [er8] at c27_9
      refine lv_aload_n hx hb dX8_setBox_39 rfl (lv_at hl 0 rfl) ?_
      refine lv_iconst (v := 2) hx hb dX8_setBox_40 (by decide) ?_
      refine zafter_i C hw (zrunV (rest := []) C hml hl.1 hw (zn12 hL) rfl rfl (c_X8_no l D cy ad m1 H.size hL 2) zv_X8_31 rfl rfl rfl ⟨Nat.le_of_ble_eq_true rfl, Nat.le_of_ble_eq_true rfl⟩ rfl (Nat.le_of_ble_eq_true rfl) dX8_setBox_41 ⟨Nat.zero_le _, Nat.zero_le _⟩) (fun r12 m11 H locs h10 hw => ?_)
      obtain ⟨er12, em11⟩ := h10
      exact zret_i C hr hlocks hw dX8_setBox_44 (by subst_vars; exact zpair ((if_neg c10_5).trans (if_pos c27_9)))
    · skip
      rw [er8] at c27_9
      refine lv_iload_n hx hb dX8_setBox_30 rfl (lv_at hl 3 rfl) ?_
      refine lv_iconst (v := 0) hx hb dX8_setBox_31 (by decide) ?_
      refine lv_iconst (v := 2) hx hb dX8_setBox_32 (by decide) ?_
      refine zafter_i C hw (zrunS (rest := []) C hml hl.1 hw (c_X8_isIn l D cy ad m1 H.size y 0 2) zv_X8_27 rfl rfl rfl ⟨Nat.le_of_ble_eq_true rfl, Nat.le_of_ble_eq_true rfl⟩ rfl (Nat.le_of_ble_eq_true rfl) dX8_setBox_33 ⟨Nat.zero_le _, Nat.zero_le _⟩) (fun r15 m14 H locs h13 hw => ?_)
      obtain ⟨er15, h13⟩ := h13
      rw [h13] at hw
      clear h13 m14
      refine lv_if_ne (tgt := 45) hx hb dX8_setBox_36 (by decide) (fun c36_16 => ?_) (fun c36_16 => ?_)
      · skip
        rw [er15] at c36_16
        refine lv_aload_n hx hb dX8_setBox_45 rfl (lv_at hl 0 rfl) ?_
        refine zg_X8_10 C hw (zn12 hL) dX8_setBox_46 ?_
        refine zg_X8_44 C hw (zn13 hL (by decide)) dX8_setBox_49 ?_
        refine lv_iload_n hx hb dX8_setBox_52 rfl (lv_at hl 1 rfl) ?_
        refine zaldN C hw (zq15 (w := 0) hL (by decide)) b.toNatClampNeg (by omega) ub (by decide) dX8_setBox_53 ?_
        refine lv_topi (fun x17 ex17 => ?_)
        refine lv_istore (lv' := [(4, .int x17), (0, .ref (ad (12, 0, 0))), (1, .int b), (2, .int x), (3, .int y)]) hx hb dX8_setBox_54 hl (by decide) rfl (fun ls hl => ?_)
        refine lv_aload_n hx hb dX8_setBox_56 rfl (lv_at hl 1 rfl) ?_
        refine zg_X8_10 C hw (zn12 hL) dX8_setBox_57 ?_
        refine zg_X8_44 C hw (zn13 hL (by decide)) dX8_setBox_60 ?_
        refine lv_iload_n hx hb dX8_setBox_63 rfl (lv_at hl 2 rfl) ?_
        refine lv_iload_n hx hb dX8_setBox_64 rfl (lv_at hl 3 rfl) ?_
        refine zastN C hw (zq15 (w := 0) hL (by decide)) b.toNatClampNeg (by omega) ub (by decide) dX8_setBox_65 (fun H locs m18 em18 hw => ?_)
        refine lv_aload_n hx hb dX8_setBox_66 rfl (lv_at hl 1 rfl) ?_
        refine zg_X8_10 C hw (zn12 hL) dX8_setBox_67 ?_
        refine zg_X8_66 C hw (zn13 hL (by decide)) dX8_setBox_70 ?_
        refine lv_iload_n hx hb dX8_setBox_73 rfl (lv_at hl 2 rfl) ?_
        refine lv_iload_n hx hb dX8_setBox_74 rfl (lv_at hl 4 rfl) ?_
        refine zastN C hw (zq16 (w := 0) hL (by decide)) b.toNatClampNeg (by omega) ub (by decide) dX8_setBox_75 (fun H locs m19 em19 hw => ?_)
        refine lv_iload hx hb dX8_setBox_76 (lv_at hl 0 rfl) ?_
        exact zret_i C hr hlocks hw dX8_setBox_78 (by subst_vars; exact zpair ((if_neg c10_5).trans ((if_neg c27_9).trans (if_neg c36_16))))
      · skip
        rw [er15] at c36_16
        refine lv_aload_n hx hb dX8_setBox_39 rfl (lv_at hl 0 rfl) ?_
        refine lv_iconst (v := 2) hx hb dX8_setBox_40 (by decide) ?_
        refine zafter_i C hw (zrunV (rest := []) C hml hl.1 hw (zn12 hL) rfl rfl (c_X8_no l D cy ad m1 H.size hL 2) zv_X8_31 rfl rfl rfl ⟨Nat.le_of_ble_eq_true rfl, Nat.le_of_ble_eq_true rfl⟩ rfl (Nat.le_of_ble_eq_true rfl) dX8_setBox_41 ⟨Nat.zero_le _, Nat.zero_le _⟩) (fun r22 m21 H locs h20 hw => ?_)
        obtain ⟨er22, em21⟩ := h20
        exact zret_i C hr hlocks hw dX8_setBox_44 (by subst_vars; exact zpair ((if_neg c10_5).trans ((if_neg c27_9).trans (if_pos c36_16))))
  · skip
    rw [er4] at c10_5
    refine lv_aload_n hx hb dX8_setBox_13 rfl (lv_at hl 0 rfl) ?_
    refine lv_iconst (v := 1) hx hb dX8_setBox_14 (by decide) ?_
    refine zafter_i C hw (zrunV (rest := []) C hml hl.1 hw (zn12 hL) rfl rfl (c_X8_no l D cy ad m1 H.size hL 1) zv_X8_31 rfl rfl rfl ⟨Nat.le_of_ble_eq_true rfl, Nat.le_of_ble_eq_true rfl⟩ rfl (Nat.le_of_ble_eq_true rfl) dX8_setBox_15 ⟨Nat.zero_le _, Nat.zero_le _⟩) (fun r25 m24 H locs h23 hw => ?_)
    obtain ⟨er25, em24⟩ := h23
    exact zret_i C hr hlocks hw dX8_setBox_18 (by subst_vars; exact zpair (if_pos c10_5))

set_option maxHeartbeats 4000000 in
set_option maxRecDepth 100000 in
theorem c_X8_boxTold (l : Launch) (D : va_G) (cy : Nat → ClassId) (ad : ZN → Nat) (m : ZM) (sz : Nat) {L : List ZN} (hL : zL L) {bc : Nat} {sc go : Nat → Nat} {hq : Nat} (G : gS m 0 bc sc go hq) (b k : Nat) (gb : b < 4) (gk : k ≤ 11) : Met l yX8_boxTold (zws yX8_boxTold cX8_boxTold 5 (some .int)) ({ frames := 0, cells := 0, slots := 0, locals := 0 } : Room) (zPc D cy ad L m sz [.ref (ad (12, 0, 0)), .int (nI b), .int (nI k)]) (zQi (fun r m1 => r = q8_boxTold m sc b k ∧ m1 = m) D cy ad L sz) 0 0 (zA ad L sz) := by
  refine zopen (Qc := fun sz => zQi (fun r m1 => r = q8_boxTold m sc b k ∧ m1 = m) D cy ad L sz) RX8 (plainFor_of_name (by decide)) rfl (Nat.le_of_ble_eq_true rfl) ?_
  intro p e s mi below meth c ls C hr hlocks hml hl H locs hw
  obtain ⟨hx, hb, hts, hown, hK, hNw⟩ := id C
  have hl : lv_has ls 5 [(0, .ref (ad (12, 0, 0))), (1, .int (nI b)), (2, .int (nI k))] := hl
  obtain ⟨hbc, lbc, hbx, -⟩ := id G
  refine lv_iload_n hx hb dX8_boxTold_0 rfl (lv_at hl 2 rfl) ?_
  refine lv_iconst (v := 3) hx hb dX8_boxTold_1 (by decide) ?_
  refine lv_icmp_le (tgt := 43) hx hb dX8_boxTold_2 (by decide) (fun c2_1 => ?_) (fun c2_1 => ?_)
  · skip
    have n2 := zle c2_1 (a := k) (b := 3) rfl rfl (by omega) (by omega)
    refine lv_iload_n hx hb dX8_boxTold_43 rfl (lv_at hl 2 rfl) ?_
    refine lv_bipush (v := 10) hx hb dX8_boxTold_44 (by decide) ?_
    refine lv_icmp_ne (tgt := 93) hx hb dX8_boxTold_46 (by decide) (fun c46_3 => ?_) (fun c46_3 => ?_)
    · skip
      have n4 := zne c46_3 (a := k) (b := 10) rfl rfl (by omega) (by omega)
      refine lv_iload_n hx hb dX8_boxTold_93 rfl (lv_at hl 2 rfl) ?_
      refine lv_if_ne (tgt := 109) hx hb dX8_boxTold_94 (by decide) (fun c94_5 => ?_) (fun c94_5 => ?_)
      · skip
        have n6 := zne c94_5 (a := k) (b := 0) rfl rfl (by omega) (by omega)
        refine lv_iload_n hx hb dX8_boxTold_109 rfl (lv_at hl 2 rfl) ?_
        refine lv_iconst (v := 1) hx hb dX8_boxTold_110 (by decide) ?_
        refine lv_icmp_ne (tgt := 126) hx hb dX8_boxTold_111 (by decide) (fun c111_7 => ?_) (fun c111_7 => ?_)
        · skip
          have n8 := zne c111_7 (a := k) (b := 1) rfl rfl (by omega) (by omega)
          refine lv_iload_n hx hb dX8_boxTold_126 rfl (lv_at hl 2 rfl) ?_
          refine lv_iconst (v := 2) hx hb dX8_boxTold_127 (by decide) ?_
          refine lv_icmp_ne (tgt := 143) hx hb dX8_boxTold_128 (by decide) (fun c128_9 => ?_) (fun c128_9 => ?_)
          · skip
            have n10 := zne c128_9 (a := k) (b := 2) rfl rfl (by omega) (by omega)
            refine lv_iload_n hx hb dX8_boxTold_143 rfl (lv_at hl 2 rfl) ?_
            refine lv_iconst (v := 3) hx hb dX8_boxTold_144 (by decide) ?_
            refine lv_icmp_ne (tgt := 160) hx hb dX8_boxTold_145 (by decide) (fun c145_11 => ?_) (fun c145_11 => ?_)
            · skip
              have n12 := zne c145_11 (a := k) (b := 3) rfl rfl (by omega) (by omega)
              refine lv_aload_n hx hb dX8_boxTold_160 rfl (lv_at hl 0 rfl) ?_
              refine zg_X8_10 C hw (zn12 hL) dX8_boxTold_161 ?_
              refine zg_X8_72 C hw (zn13 hL (by decide)) dX8_boxTold_164 ?_
              refine lv_iload_n hx hb dX8_boxTold_167 rfl (lv_at hl 1 rfl) ?_
              refine zaldN C hw (zq18 (w := 0) hL (by decide)) b (by omega) rfl (by decide) dX8_boxTold_168 ?_
              exact zret_i C hr hlocks hw dX8_boxTold_169 ⟨((if_pos c2_1).trans ((if_neg c46_3).trans ((if_neg c94_5).trans ((if_neg c111_7).trans ((if_neg c128_9).trans (if_neg c145_11)))))).symm, rfl⟩
            · skip
              have n13 := zeq c145_11 (a := k) (b := 3) rfl rfl (by omega) (by omega)
              refine lv_aload_n hx hb dX8_boxTold_148 rfl (lv_at hl 0 rfl) ?_
              refine zg_X8_10 C hw (zn12 hL) dX8_boxTold_149 ?_
              refine zg_X8_47 C hw (zn13 hL (by decide)) dX8_boxTold_152 ?_
              refine lv_iload_n hx hb dX8_boxTold_155 rfl (lv_at hl 1 rfl) ?_
              refine zaldN C hw (zq17 (w := 0) hL (by decide)) b (by omega) rfl (by decide) dX8_boxTold_156 ?_
              refine lv_goto (tgt := 169) hx hb dX8_boxTold_157 (by decide) ?_
              exact zret_i C hr hlocks hw dX8_boxTold_169 ⟨((if_pos c2_1).trans ((if_neg c46_3).trans ((if_neg c94_5).trans ((if_neg c111_7).trans ((if_neg c128_9).trans (if_pos c145_11)))))).symm, rfl⟩
          · skip
            have n14 := zeq c128_9 (a := k) (b := 2) rfl rfl (by omega) (by omega)
            refine lv_aload_n hx hb dX8_boxTold_131 rfl (lv_at hl 0 rfl) ?_
            refine zg_X8_10 C hw (zn12 hL) dX8_boxTold_132 ?_
            refine zg_X8_66 C hw (zn13 hL (by decide)) dX8_boxTold_135 ?_
            refine lv_iload_n hx hb dX8_boxTold_138 rfl (lv_at hl 1 rfl) ?_
            refine zaldN C hw (zq16 (w := 0) hL (by decide)) b (by omega) rfl (by decide) dX8_boxTold_139 ?_
            refine lv_goto (tgt := 169) hx hb dX8_boxTold_140 (by decide) ?_
            exact zret_i C hr hlocks hw dX8_boxTold_169 ⟨((if_pos c2_1).trans ((if_neg c46_3).trans ((if_neg c94_5).trans ((if_neg c111_7).trans (if_pos c128_9))))).symm, rfl⟩
        · skip
          have n15 := zeq c111_7 (a := k) (b := 1) rfl rfl (by omega) (by omega)
          refine lv_aload_n hx hb dX8_boxTold_114 rfl (lv_at hl 0 rfl) ?_
          refine zg_X8_10 C hw (zn12 hL) dX8_boxTold_115 ?_
          refine zg_X8_44 C hw (zn13 hL (by decide)) dX8_boxTold_118 ?_
          refine lv_iload_n hx hb dX8_boxTold_121 rfl (lv_at hl 1 rfl) ?_
          refine zaldN C hw (zq15 (w := 0) hL (by decide)) b (by omega) rfl (by decide) dX8_boxTold_122 ?_
          refine lv_goto (tgt := 169) hx hb dX8_boxTold_123 (by decide) ?_
          exact zret_i C hr hlocks hw dX8_boxTold_169 ⟨((if_pos c2_1).trans ((if_neg c46_3).trans ((if_neg c94_5).trans (if_pos c111_7)))).symm, rfl⟩
      · skip
        have n16 := zeq c94_5 (a := k) (b := 0) rfl rfl (by omega) (by omega)
        refine lv_aload_n hx hb dX8_boxTold_97 rfl (lv_at hl 0 rfl) ?_
        refine zg_X8_10 C hw (zn12 hL) dX8_boxTold_98 ?_
        refine zg_X8_54 C hw (zn13 hL (by decide)) dX8_boxTold_101 ?_
        refine lv_iload_n hx hb dX8_boxTold_104 rfl (lv_at hl 1 rfl) ?_
        refine zaldN C hw (zq11 (w := 0) hL (by decide)) b (by omega) rfl (by decide) dX8_boxTold_105 ?_
        refine ztop (hbx b gb).1 ?_
        refine lv_goto (tgt := 169) hx hb dX8_boxTold_106 (by decide) ?_
        exact zret_i C hr hlocks hw dX8_boxTold_169 ⟨(hbx b gb).1.symm.trans ((if_pos c2_1).trans ((if_neg c46_3).trans (if_pos c94_5))).symm, rfl⟩
    · skip
      have n17 := zeq c46_3 (a := k) (b := 10) rfl rfl (by omega) (by omega)
      refine lv_iconst (v := 0) hx hb dX8_boxTold_49 (by decide) ?_
      refine lv_istore_n (lv' := [(3, .int 0), (0, .ref (ad (12, 0, 0))), (1, .int (nI b)), (2, .int (nI k))]) hx hb dX8_boxTold_50 rfl hl (by decide) rfl (fun ls hl => ?_)
      refine lv_iconst (v := 0) hx hb dX8_boxTold_51 (by decide) ?_
      refine lv_istore (lv' := [(4, .int 0), (3, .int 0), (0, .ref (ad (12, 0, 0))), (1, .int (nI b)), (2, .int (nI k))]) hx hb dX8_boxTold_52 hl (by decide) rfl (fun ls hl => ?_)
      have loop54 : ∀ (z : Nat) (j : Nat) (x : Int32) (H : Heap) (locs : List Loc) (ls : Array Slot), sc b - j = z → (j ≤ sc b) → (x = q8_wears m b j) → zH D cy ad L s.heap H locs m → lv_has ls 5 [(0, .ref (ad (12, 0, 0))), (1, .int (nI b)), (2, .int (nI k)), (3, .int x), (4, .int (nI j))] → W p l e ({ frames := 0, cells := 0, slots := 0, locals := 0 } : Room) s mi [.ref (ad (12, 0, 0)), .int (nI b), .int (nI k)].toArray below meth c H locs 0 0 (MQ below (zQi (fun r m1 => r = q8_boxTold m sc b k ∧ m1 = m) D cy ad L s.heap.size) [.ref (ad (12, 0, 0)), .int (nI b), .int (nI k)].toArray s 0 0 (zA ad L s.heap.size)) (F0 mi 54 ls []) := by
        intro z
        induction z using Nat.strongRecOn with
        | _ z ih54 =>
        intro j x H locs ls hz54 i54_1 i54_2 hw hl
        have lsc := (hbx b gb).2.1
        refine lv_iload hx hb dX8_boxTold_54 (lv_at hl 4 rfl) ?_
        refine lv_aload_n hx hb dX8_boxTold_56 rfl (lv_at hl 0 rfl) ?_
        refine zg_X8_10 C hw (zn12 hL) dX8_boxTold_57 ?_
        refine zg_X8_54 C hw (zn13 hL (by decide)) dX8_boxTold_60 ?_
        refine lv_iload_n hx hb dX8_boxTold_63 rfl (lv_at hl 1 rfl) ?_
        refine zaldN C hw (zq11 (w := 0) hL (by decide)) b (by omega) rfl (by decide) dX8_boxTold_64 ?_
        refine ztop (hbx b gb).1 ?_
        refine lv_icmp_ge (tgt := 91) hx hb dX8_boxTold_65 (by decide) (fun c65_18 => ?_) (fun c65_18 => ?_)
        · skip
          have n19 := zle c65_18 (a := (sc b)) (b := j) rfl rfl (by omega) (by omega)
          refine lv_iload_n hx hb dX8_boxTold_91 rfl (lv_at hl 3 rfl) ?_
          exact zret_i C hr hlocks hw dX8_boxTold_92 ⟨(i54_2.trans (by rw [show j = sc b by omega]; exact ((if_pos c2_1).trans (if_pos c46_3)).symm)), rfl⟩
        · skip
          have n20 := znle c65_18 (a := (sc b)) (b := j) rfl rfl (by omega) (by omega)
          refine lv_iload_n hx hb dX8_boxTold_68 rfl (lv_at hl 3 rfl) ?_
          refine lv_aload_n hx hb dX8_boxTold_69 rfl (lv_at hl 0 rfl) ?_
          refine zg_X8_10 C hw (zn12 hL) dX8_boxTold_70 ?_
          refine zg_X8_63 C hw (zn13 hL (by decide)) dX8_boxTold_73 ?_
          refine lv_iconst (v := 4) hx hb dX8_boxTold_76 (by decide) ?_
          refine lv_iload_n hx hb dX8_boxTold_77 rfl (lv_at hl 1 rfl) ?_
          refine lv_imul hx hb dX8_boxTold_78 ?_
          refine lv_iload hx hb dX8_boxTold_79 (lv_at hl 4 rfl) ?_
          refine lv_iadd hx hb dX8_boxTold_81 ?_
          refine zaldN C hw (zq14 (w := 0) hL (by decide)) ((4 * b) + j) (by omega) (zadd (zmul rfl rfl) rfl) (by decide) dX8_boxTold_82 ?_
          refine lv_iadd hx hb dX8_boxTold_83 ?_
          refine lv_topi (fun x21 ex21 => ?_)
          refine lv_istore_n (lv' := [(3, .int x21), (0, .ref (ad (12, 0, 0))), (1, .int (nI b)), (2, .int (nI k)), (4, .int (nI j))]) hx hb dX8_boxTold_84 rfl hl (by decide) rfl (fun ls hl => ?_)
          refine lv_iinc (v := (nI (j + 1))) (lv' := [(4, .int (nI (j + 1))), (3, .int x21), (0, .ref (ad (12, 0, 0))), (1, .int (nI b)), (2, .int (nI k))]) hx hb dX8_boxTold_85 hl (k := 4) rfl (nI_1 j) (by decide) rfl (fun ls hl => ?_)
          refine lv_goto (tgt := 54) hx hb dX8_boxTold_88 (by decide) ?_
          exact ih54 _ (by omega) (j + 1) x21 _ _ _ rfl (by omega) (by rw [ex21, i54_2]; rfl) hw (lv_sub hl [2, 3, 4, 1, 0] rfl)
      exact loop54 _ 0 0 _ _ _ rfl (Nat.zero_le _) rfl hw (lv_sub hl [2, 3, 4, 1, 0] rfl)
  · skip
    have n22 := znle c2_1 (a := k) (b := 3) rfl rfl (by omega) (by omega)
    refine lv_iload_n hx hb dX8_boxTold_5 rfl (lv_at hl 2 rfl) ?_
    refine lv_bipush (v := 10) hx hb dX8_boxTold_6 (by decide) ?_
    refine lv_icmp_ge (tgt := 43) hx hb dX8_boxTold_8 (by decide) (fun c8_23 => ?_) (fun c8_23 => ?_)
    · skip
      have n24 := zle c8_23 (a := 10) (b := k) rfl rfl (by omega) (by omega)
      refine lv_iload_n hx hb dX8_boxTold_43 rfl (lv_at hl 2 rfl) ?_
      refine lv_bipush (v := 10) hx hb dX8_boxTold_44 (by decide) ?_
      refine lv_icmp_ne (tgt := 93) hx hb dX8_boxTold_46 (by decide) (fun c46_25 => ?_) (fun c46_25 => ?_)
      · skip
        have n26 := zne c46_25 (a := k) (b := 10) rfl rfl (by omega) (by omega)
        refine lv_iload_n hx hb dX8_boxTold_93 rfl (lv_at hl 2 rfl) ?_
        refine lv_if_ne (tgt := 109) hx hb dX8_boxTold_94 (by decide) (fun c94_27 => ?_) (fun c94_27 => ?_)
        · skip
          have n28 := zne c94_27 (a := k) (b := 0) rfl rfl (by omega) (by omega)
          refine lv_iload_n hx hb dX8_boxTold_109 rfl (lv_at hl 2 rfl) ?_
          refine lv_iconst (v := 1) hx hb dX8_boxTold_110 (by decide) ?_
          refine lv_icmp_ne (tgt := 126) hx hb dX8_boxTold_111 (by decide) (fun c111_29 => ?_) (fun c111_29 => ?_)
          · skip
            have n30 := zne c111_29 (a := k) (b := 1) rfl rfl (by omega) (by omega)
            refine lv_iload_n hx hb dX8_boxTold_126 rfl (lv_at hl 2 rfl) ?_
            refine lv_iconst (v := 2) hx hb dX8_boxTold_127 (by decide) ?_
            refine lv_icmp_ne (tgt := 143) hx hb dX8_boxTold_128 (by decide) (fun c128_31 => ?_) (fun c128_31 => ?_)
            · skip
              have n32 := zne c128_31 (a := k) (b := 2) rfl rfl (by omega) (by omega)
              refine lv_iload_n hx hb dX8_boxTold_143 rfl (lv_at hl 2 rfl) ?_
              refine lv_iconst (v := 3) hx hb dX8_boxTold_144 (by decide) ?_
              refine lv_icmp_ne (tgt := 160) hx hb dX8_boxTold_145 (by decide) (fun c145_33 => ?_) (fun c145_33 => ?_)
              · skip
                have n34 := zne c145_33 (a := k) (b := 3) rfl rfl (by omega) (by omega)
                refine lv_aload_n hx hb dX8_boxTold_160 rfl (lv_at hl 0 rfl) ?_
                refine zg_X8_10 C hw (zn12 hL) dX8_boxTold_161 ?_
                refine zg_X8_72 C hw (zn13 hL (by decide)) dX8_boxTold_164 ?_
                refine lv_iload_n hx hb dX8_boxTold_167 rfl (lv_at hl 1 rfl) ?_
                refine zaldN C hw (zq18 (w := 0) hL (by decide)) b (by omega) rfl (by decide) dX8_boxTold_168 ?_
                exact zret_i C hr hlocks hw dX8_boxTold_169 ⟨((if_neg c2_1).trans ((if_pos c8_23).trans ((if_neg c46_25).trans ((if_neg c94_27).trans ((if_neg c111_29).trans ((if_neg c128_31).trans (if_neg c145_33))))))).symm, rfl⟩
              · skip
                have n35 := zeq c145_33 (a := k) (b := 3) rfl rfl (by omega) (by omega)
                refine lv_aload_n hx hb dX8_boxTold_148 rfl (lv_at hl 0 rfl) ?_
                refine zg_X8_10 C hw (zn12 hL) dX8_boxTold_149 ?_
                refine zg_X8_47 C hw (zn13 hL (by decide)) dX8_boxTold_152 ?_
                refine lv_iload_n hx hb dX8_boxTold_155 rfl (lv_at hl 1 rfl) ?_
                refine zaldN C hw (zq17 (w := 0) hL (by decide)) b (by omega) rfl (by decide) dX8_boxTold_156 ?_
                refine lv_goto (tgt := 169) hx hb dX8_boxTold_157 (by decide) ?_
                exact zret_i C hr hlocks hw dX8_boxTold_169 ⟨((if_neg c2_1).trans ((if_pos c8_23).trans ((if_neg c46_25).trans ((if_neg c94_27).trans ((if_neg c111_29).trans ((if_neg c128_31).trans (if_pos c145_33))))))).symm, rfl⟩
            · skip
              have n36 := zeq c128_31 (a := k) (b := 2) rfl rfl (by omega) (by omega)
              refine lv_aload_n hx hb dX8_boxTold_131 rfl (lv_at hl 0 rfl) ?_
              refine zg_X8_10 C hw (zn12 hL) dX8_boxTold_132 ?_
              refine zg_X8_66 C hw (zn13 hL (by decide)) dX8_boxTold_135 ?_
              refine lv_iload_n hx hb dX8_boxTold_138 rfl (lv_at hl 1 rfl) ?_
              refine zaldN C hw (zq16 (w := 0) hL (by decide)) b (by omega) rfl (by decide) dX8_boxTold_139 ?_
              refine lv_goto (tgt := 169) hx hb dX8_boxTold_140 (by decide) ?_
              exact zret_i C hr hlocks hw dX8_boxTold_169 ⟨((if_neg c2_1).trans ((if_pos c8_23).trans ((if_neg c46_25).trans ((if_neg c94_27).trans ((if_neg c111_29).trans (if_pos c128_31)))))).symm, rfl⟩
          · skip
            have n37 := zeq c111_29 (a := k) (b := 1) rfl rfl (by omega) (by omega)
            refine lv_aload_n hx hb dX8_boxTold_114 rfl (lv_at hl 0 rfl) ?_
            refine zg_X8_10 C hw (zn12 hL) dX8_boxTold_115 ?_
            refine zg_X8_44 C hw (zn13 hL (by decide)) dX8_boxTold_118 ?_
            refine lv_iload_n hx hb dX8_boxTold_121 rfl (lv_at hl 1 rfl) ?_
            refine zaldN C hw (zq15 (w := 0) hL (by decide)) b (by omega) rfl (by decide) dX8_boxTold_122 ?_
            refine lv_goto (tgt := 169) hx hb dX8_boxTold_123 (by decide) ?_
            exact zret_i C hr hlocks hw dX8_boxTold_169 ⟨((if_neg c2_1).trans ((if_pos c8_23).trans ((if_neg c46_25).trans ((if_neg c94_27).trans (if_pos c111_29))))).symm, rfl⟩
        · skip
          have n38 := zeq c94_27 (a := k) (b := 0) rfl rfl (by omega) (by omega)
          refine lv_aload_n hx hb dX8_boxTold_97 rfl (lv_at hl 0 rfl) ?_
          refine zg_X8_10 C hw (zn12 hL) dX8_boxTold_98 ?_
          refine zg_X8_54 C hw (zn13 hL (by decide)) dX8_boxTold_101 ?_
          refine lv_iload_n hx hb dX8_boxTold_104 rfl (lv_at hl 1 rfl) ?_
          refine zaldN C hw (zq11 (w := 0) hL (by decide)) b (by omega) rfl (by decide) dX8_boxTold_105 ?_
          refine ztop (hbx b gb).1 ?_
          refine lv_goto (tgt := 169) hx hb dX8_boxTold_106 (by decide) ?_
          exact zret_i C hr hlocks hw dX8_boxTold_169 ⟨(hbx b gb).1.symm.trans ((if_neg c2_1).trans ((if_pos c8_23).trans ((if_neg c46_25).trans (if_pos c94_27)))).symm, rfl⟩
      · skip
        have n39 := zeq c46_25 (a := k) (b := 10) rfl rfl (by omega) (by omega)
        refine lv_iconst (v := 0) hx hb dX8_boxTold_49 (by decide) ?_
        refine lv_istore_n (lv' := [(3, .int 0), (0, .ref (ad (12, 0, 0))), (1, .int (nI b)), (2, .int (nI k))]) hx hb dX8_boxTold_50 rfl hl (by decide) rfl (fun ls hl => ?_)
        refine lv_iconst (v := 0) hx hb dX8_boxTold_51 (by decide) ?_
        refine lv_istore (lv' := [(4, .int 0), (3, .int 0), (0, .ref (ad (12, 0, 0))), (1, .int (nI b)), (2, .int (nI k))]) hx hb dX8_boxTold_52 hl (by decide) rfl (fun ls hl => ?_)
        have loop54 : ∀ (z : Nat) (j : Nat) (x : Int32) (H : Heap) (locs : List Loc) (ls : Array Slot), sc b - j = z → (j ≤ sc b) → (x = q8_wears m b j) → zH D cy ad L s.heap H locs m → lv_has ls 5 [(0, .ref (ad (12, 0, 0))), (1, .int (nI b)), (2, .int (nI k)), (3, .int x), (4, .int (nI j))] → W p l e ({ frames := 0, cells := 0, slots := 0, locals := 0 } : Room) s mi [.ref (ad (12, 0, 0)), .int (nI b), .int (nI k)].toArray below meth c H locs 0 0 (MQ below (zQi (fun r m1 => r = q8_boxTold m sc b k ∧ m1 = m) D cy ad L s.heap.size) [.ref (ad (12, 0, 0)), .int (nI b), .int (nI k)].toArray s 0 0 (zA ad L s.heap.size)) (F0 mi 54 ls []) := by
          intro z
          induction z using Nat.strongRecOn with
          | _ z ih54 =>
          intro j x H locs ls hz54 i54_1 i54_2 hw hl
          have lsc := (hbx b gb).2.1
          refine lv_iload hx hb dX8_boxTold_54 (lv_at hl 4 rfl) ?_
          refine lv_aload_n hx hb dX8_boxTold_56 rfl (lv_at hl 0 rfl) ?_
          refine zg_X8_10 C hw (zn12 hL) dX8_boxTold_57 ?_
          refine zg_X8_54 C hw (zn13 hL (by decide)) dX8_boxTold_60 ?_
          refine lv_iload_n hx hb dX8_boxTold_63 rfl (lv_at hl 1 rfl) ?_
          refine zaldN C hw (zq11 (w := 0) hL (by decide)) b (by omega) rfl (by decide) dX8_boxTold_64 ?_
          refine ztop (hbx b gb).1 ?_
          refine lv_icmp_ge (tgt := 91) hx hb dX8_boxTold_65 (by decide) (fun c65_40 => ?_) (fun c65_40 => ?_)
          · skip
            have n41 := zle c65_40 (a := (sc b)) (b := j) rfl rfl (by omega) (by omega)
            refine lv_iload_n hx hb dX8_boxTold_91 rfl (lv_at hl 3 rfl) ?_
            exact zret_i C hr hlocks hw dX8_boxTold_92 ⟨(i54_2.trans (by rw [show j = sc b by omega]; exact ((if_neg c2_1).trans ((if_pos c8_23).trans (if_pos c46_25))).symm)), rfl⟩
          · skip
            have n42 := znle c65_40 (a := (sc b)) (b := j) rfl rfl (by omega) (by omega)
            refine lv_iload_n hx hb dX8_boxTold_68 rfl (lv_at hl 3 rfl) ?_
            refine lv_aload_n hx hb dX8_boxTold_69 rfl (lv_at hl 0 rfl) ?_
            refine zg_X8_10 C hw (zn12 hL) dX8_boxTold_70 ?_
            refine zg_X8_63 C hw (zn13 hL (by decide)) dX8_boxTold_73 ?_
            refine lv_iconst (v := 4) hx hb dX8_boxTold_76 (by decide) ?_
            refine lv_iload_n hx hb dX8_boxTold_77 rfl (lv_at hl 1 rfl) ?_
            refine lv_imul hx hb dX8_boxTold_78 ?_
            refine lv_iload hx hb dX8_boxTold_79 (lv_at hl 4 rfl) ?_
            refine lv_iadd hx hb dX8_boxTold_81 ?_
            refine zaldN C hw (zq14 (w := 0) hL (by decide)) ((4 * b) + j) (by omega) (zadd (zmul rfl rfl) rfl) (by decide) dX8_boxTold_82 ?_
            refine lv_iadd hx hb dX8_boxTold_83 ?_
            refine lv_topi (fun x43 ex43 => ?_)
            refine lv_istore_n (lv' := [(3, .int x43), (0, .ref (ad (12, 0, 0))), (1, .int (nI b)), (2, .int (nI k)), (4, .int (nI j))]) hx hb dX8_boxTold_84 rfl hl (by decide) rfl (fun ls hl => ?_)
            refine lv_iinc (v := (nI (j + 1))) (lv' := [(4, .int (nI (j + 1))), (3, .int x43), (0, .ref (ad (12, 0, 0))), (1, .int (nI b)), (2, .int (nI k))]) hx hb dX8_boxTold_85 hl (k := 4) rfl (nI_1 j) (by decide) rfl (fun ls hl => ?_)
            refine lv_goto (tgt := 54) hx hb dX8_boxTold_88 (by decide) ?_
            exact ih54 _ (by omega) (j + 1) x43 _ _ _ rfl (by omega) (by rw [ex43, i54_2]; rfl) hw (lv_sub hl [2, 3, 4, 1, 0] rfl)
        exact loop54 _ 0 0 _ _ _ rfl (Nat.zero_le _) rfl hw (lv_sub hl [2, 3, 4, 1, 0] rfl)
    · skip
      have n44 := znle c8_23 (a := 10) (b := k) rfl rfl (by omega) (by omega)
      refine lv_aload_n hx hb dX8_boxTold_11 rfl (lv_at hl 0 rfl) ?_
      refine zg_X8_10 C hw (zn12 hL) dX8_boxTold_12 ?_
      refine zg_X8_69 C hw (zn13 hL (by decide)) dX8_boxTold_15 ?_
      refine lv_iconst (v := 2) hx hb dX8_boxTold_18 (by decide) ?_
      refine lv_iconst (v := 3) hx hb dX8_boxTold_19 (by decide) ?_
      refine lv_iload_n hx hb dX8_boxTold_20 rfl (lv_at hl 1 rfl) ?_
      refine lv_imul hx hb dX8_boxTold_21 ?_
      refine lv_iload_n hx hb dX8_boxTold_22 rfl (lv_at hl 2 rfl) ?_
      refine lv_iconst (v := 4) hx hb dX8_boxTold_23 (by decide) ?_
      refine lv_isub hx hb dX8_boxTold_24 ?_
      refine lv_iconst (v := 3) hx hb dX8_boxTold_25 (by decide) ?_
      refine lv_irem hx hb dX8_boxTold_26 (by decide) ?_
      refine lv_iadd hx hb dX8_boxTold_27 ?_
      refine lv_imul hx hb dX8_boxTold_28 ?_
      refine lv_iload_n hx hb dX8_boxTold_29 rfl (lv_at hl 2 rfl) ?_
      refine lv_bipush (v := 6) hx hb dX8_boxTold_30 (by decide) ?_
      refine lv_icmp_le (tgt := 39) hx hb dX8_boxTold_32 (by decide) (fun c32_45 => ?_) (fun c32_45 => ?_)
      · skip
        have n46 := zle c32_45 (a := k) (b := 6) rfl rfl (by omega) (by omega)
        refine lv_iconst (v := 0) hx hb dX8_boxTold_39 (by decide) ?_
        refine lv_iadd hx hb dX8_boxTold_40 ?_
        refine zaldN C hw (zq19 (w := 0) hL (by decide)) ((2 * ((3 * b) + ((k - 4) % 3))) + 0) (by omega) (zadd (zmul rfl (zadd (zmul rfl rfl) ((congrArg (fun z : Int32 => z - z / 3 * 3) (pk_sub (a := k) (b := 4) (by omega))).trans (pk_rem (by omega) (by decide) (by decide))))) rfl) (by decide) dX8_boxTold_41 ?_
        exact zret_i C hr hlocks hw dX8_boxTold_42 ⟨((if_neg c2_1).trans ((if_neg c8_23).trans (if_pos c32_45))).symm, rfl⟩
      · skip
        have n47 := znle c32_45 (a := k) (b := 6) rfl rfl (by omega) (by omega)
        refine lv_iconst (v := 1) hx hb dX8_boxTold_35 (by decide) ?_
        refine lv_goto (tgt := 40) hx hb dX8_boxTold_36 (by decide) ?_
        refine lv_iadd hx hb dX8_boxTold_40 ?_
        refine zaldN C hw (zq19 (w := 0) hL (by decide)) ((2 * ((3 * b) + ((k - 4) % 3))) + 1) (by omega) (zadd (zmul rfl (zadd (zmul rfl rfl) ((congrArg (fun z : Int32 => z - z / 3 * 3) (pk_sub (a := k) (b := 4) (by omega))).trans (pk_rem (by omega) (by decide) (by decide))))) rfl) (by decide) dX8_boxTold_41 ?_
        exact zret_i C hr hlocks hw dX8_boxTold_42 ⟨((if_neg c2_1).trans ((if_neg c8_23).trans (if_neg c32_45))).symm, rfl⟩

set_option maxHeartbeats 4000000 in
set_option maxRecDepth 100000 in
theorem c_X8_box (l : Launch) (D : va_G) (cy : Nat → ClassId) (ad : ZN → Nat) (m : ZM) (sz : Nat) {L : List ZN} (hL : zL L) {bc : Nat} {sc go : Nat → Nat} {hq ln : Nat} (G : gM m bc sc go hq ln) (b k : Int32) : Met l yX8_box (zws yX8_box cX8_box 3 (some .int)) ({ frames := 2, cells := 0, slots := 0, locals := 43 } : Room) (zPc D cy ad L m sz [.ref (ad (12, 0, 0)), .int b, .int k]) (zQi (fun r m1 => r = (q8_box m sc b k).1 ∧ m1 = (q8_box m sc b k).2) D cy ad L sz) 0 0 (zA ad L sz) := by
  refine zopen (Qc := fun sz => zQi (fun r m1 => r = (q8_box m sc b k).1 ∧ m1 = (q8_box m sc b k).2) D cy ad L sz) RX8 (plainFor_of_name (by decide)) rfl (Nat.le_of_ble_eq_true rfl) ?_
  intro p e s mi below meth c ls C hr hlocks hml hl H locs hw
  obtain ⟨hx, hb, hts, hown, hK, hNw⟩ := id C
  have hl : lv_has ls 3 [(0, .ref (ad (12, 0, 0))), (1, .int b), (2, .int k)] := hl
  refine lv_aload_n hx hb dX8_box_0 rfl (lv_at hl 0 rfl) ?_
  refine lv_iconst (v := 0) hx hb dX8_box_1 (by decide) ?_
  refine zp_X8_23 C hw (zn12 hL) dX8_box_2 (fun H locs m1 em1 hw => ?_)
  have GM1 : gM m1 bc sc go hq ln := by rw [em1]; exact gM_t G
  obtain ⟨⟨hbc1, lbc1, hbx1, hhd1, -, hhq1, lhq1, hld1⟩, hln1, lln1⟩ := id GM1
  refine lv_aload_n hx hb dX8_box_5 rfl (lv_at hl 0 rfl) ?_
  refine lv_iload_n hx hb dX8_box_6 rfl (lv_at hl 1 rfl) ?_
  refine zafter_i C hw (zrunV (rest := []) C hml hl.1 hw (zn12 hL) rfl rfl (c_X8_isBox l D cy ad m1 H.size hL b) zv_X8_50 rfl rfl rfl ⟨Nat.le_of_ble_eq_true rfl, Nat.le_of_ble_eq_true rfl⟩ rfl (Nat.le_of_ble_eq_true rfl) dX8_box_7 ⟨Nat.zero_le _, Nat.zero_le _⟩) (fun r4 m3 H locs h2 hw => ?_)
  obtain ⟨er4, h2⟩ := h2
  rw [h2] at hw
  clear h2 m3
  refine lv_if_eq (tgt := 32) hx hb dX8_box_10 (by decide) (fun c10_5 => ?_) (fun c10_5 => ?_)
  · skip
    rw [er4] at c10_5
    refine lv_aload_n hx hb dX8_box_32 rfl (lv_at hl 0 rfl) ?_
    refine lv_iconst (v := 1) hx hb dX8_box_33 (by decide) ?_
    refine zafter_i C hw (zrunV (rest := []) C hml hl.1 hw (zn12 hL) rfl rfl (c_X8_no l D cy ad m1 H.size hL 1) zv_X8_31 rfl rfl rfl ⟨Nat.le_of_ble_eq_true rfl, Nat.le_of_ble_eq_true rfl⟩ rfl (Nat.le_of_ble_eq_true rfl) dX8_box_34 ⟨Nat.zero_le _, Nat.zero_le _⟩) (fun r8 m7 H locs h6 hw => ?_)
    obtain ⟨er8, em7⟩ := h6
    exact zret_i C hr hlocks hw dX8_box_37 (by subst_vars; exact zpair (if_pos c10_5))
  · skip
    rw [er4] at c10_5
    obtain ⟨ub, ubu⟩ := q_isIn_box (x := b) (n := bc) (by omega) (fun q => c10_5 (by rw [hbc1]; exact q))
    refine lv_iload_n hx hb dX8_box_13 rfl (lv_at hl 2 rfl) ?_
    refine lv_iconst (v := 0) hx hb dX8_box_14 (by decide) ?_
    refine lv_bipush (v := 11) hx hb dX8_box_15 (by decide) ?_
    refine zafter_i C hw (zrunS (rest := []) C hml hl.1 hw (c_X8_isIn l D cy ad m1 H.size k 0 11) zv_X8_27 rfl rfl rfl ⟨Nat.le_of_ble_eq_true rfl, Nat.le_of_ble_eq_true rfl⟩ rfl (Nat.le_of_ble_eq_true rfl) dX8_box_17 ⟨Nat.zero_le _, Nat.zero_le _⟩) (fun r11 m10 H locs h9 hw => ?_)
    obtain ⟨er11, h9⟩ := h9
    rw [h9] at hw
    clear h9 m10
    refine lv_if_eq (tgt := 32) hx hb dX8_box_20 (by decide) (fun c20_12 => ?_) (fun c20_12 => ?_)
    · skip
      rw [er11] at c20_12
      refine lv_aload_n hx hb dX8_box_32 rfl (lv_at hl 0 rfl) ?_
      refine lv_iconst (v := 1) hx hb dX8_box_33 (by decide) ?_
      refine zafter_i C hw (zrunV (rest := []) C hml hl.1 hw (zn12 hL) rfl rfl (c_X8_no l D cy ad m1 H.size hL 1) zv_X8_31 rfl rfl rfl ⟨Nat.le_of_ble_eq_true rfl, Nat.le_of_ble_eq_true rfl⟩ rfl (Nat.le_of_ble_eq_true rfl) dX8_box_34 ⟨Nat.zero_le _, Nat.zero_le _⟩) (fun r15 m14 H locs h13 hw => ?_)
      obtain ⟨er15, em14⟩ := h13
      exact zret_i C hr hlocks hw dX8_box_37 (by subst_vars; exact zpair ((if_neg c10_5).trans (if_pos c20_12)))
    · skip
      rw [er11] at c20_12
      obtain ⟨uk, ukl, uku⟩ := q_isIn_ok (x := k) (a := 0) (b := 11) (by decide) (by decide) (fun q => c20_12 q)
      refine lv_aload_n hx hb dX8_box_23 rfl (lv_at hl 0 rfl) ?_
      refine lv_iload_n hx hb dX8_box_24 rfl (lv_at hl 1 rfl) ?_
      refine lv_iload_n hx hb dX8_box_25 rfl (lv_at hl 2 rfl) ?_
      refine W.eq (congrArg (fun z : Int32 => F0 mi 26 ls [.int k, .int z, .ref (ad (12, 0, 0))]) (show b = nI b.toNatClampNeg from ub)) ?_
      refine W.eq (congrArg (fun z : Int32 => F0 mi 26 ls [.int z, .int (nI b.toNatClampNeg), .ref (ad (12, 0, 0))]) (show k = nI k.toNatClampNeg from uk)) ?_
      refine zafter_i C hw (zrunV (rest := []) C hml hl.1 hw (zn12 hL) rfl rfl (c_X8_boxTold l D cy ad m1 H.size hL GM1.1 b.toNatClampNeg k.toNatClampNeg (by omega) (by omega)) zv_X8_75 rfl rfl rfl ⟨Nat.le_of_ble_eq_true rfl, Nat.le_of_ble_eq_true rfl⟩ rfl (Nat.le_of_ble_eq_true rfl) dX8_box_26 ⟨Nat.zero_le _, Nat.zero_le _⟩) (fun r18 m17 H locs h16 hw => ?_)
      obtain ⟨er18, h16⟩ := h16
      rw [h16] at hw
      clear h16 m17
      refine lv_goto (tgt := 37) hx hb dX8_box_29 (by decide) ?_
      exact zret_i C hr hlocks hw dX8_box_37 (by subst_vars; exact zpair ((if_neg c10_5).trans (if_neg c20_12)))

set_option maxHeartbeats 4000000 in
set_option maxRecDepth 100000 in
theorem c_X8_bring (l : Launch) (D : va_G) (cy : Nat → ClassId) (ad : ZN → Nat) (m : ZM) (sz : Nat) {L : List ZN} (hL : zL L) {bc : Nat} {sc go : Nat → Nat} {hq ln : Nat} (G : gM m bc sc go hq ln) (x y z : Int32) : Met l yX8_bring (zws yX8_bring cX8_bring 5 (some .int)) ({ frames := 1, cells := 0, slots := 0, locals := 23 } : Room) (zPc D cy ad L m sz [.ref (ad (12, 0, 0)), .int x, .int y, .int z]) (zQi (fun r m1 => r = (q8_bring m ln x y z).1 ∧ m1 = (q8_bring m ln x y z).2) D cy ad L sz) 0 0 (zA ad L sz) := by
  refine zopen (Qc := fun sz => zQi (fun r m1 => r = (q8_bring m ln x y z).1 ∧ m1 = (q8_bring m ln x y z).2) D cy ad L sz) RX8 (plainFor_of_name (by decide)) rfl (Nat.le_of_ble_eq_true rfl) ?_
  intro p e s mi below meth c ls C hr hlocks hml hl H locs hw
  obtain ⟨hx, hb, hts, hown, hK, hNw⟩ := id C
  have hl : lv_has ls 5 [(0, .ref (ad (12, 0, 0))), (1, .int x), (2, .int y), (3, .int z)] := hl
  refine lv_aload_n hx hb dX8_bring_0 rfl (lv_at hl 0 rfl) ?_
  refine lv_iconst (v := 0) hx hb dX8_bring_1 (by decide) ?_
  refine zp_X8_23 C hw (zn12 hL) dX8_bring_2 (fun H locs m1 em1 hw => ?_)
  have GM1 : gM m1 bc sc go hq ln := by rw [em1]; exact gM_t G
  obtain ⟨⟨hbc1, lbc1, hbx1, hhd1, -, hhq1, lhq1, hld1⟩, hln1, lln1⟩ := id GM1
  refine lv_iload_n hx hb dX8_bring_5 rfl (lv_at hl 1 rfl) ?_
  refine lv_iconst (v := 1) hx hb dX8_bring_6 (by decide) ?_
  refine lv_sipush (v := 5000) hx hb dX8_bring_7 (by decide) ?_
  refine zafter_i C hw (zrunS (rest := []) C hml hl.1 hw (c_X8_isIn l D cy ad m1 H.size x 1 5000) zv_X8_27 rfl rfl rfl ⟨Nat.le_of_ble_eq_true rfl, Nat.le_of_ble_eq_true rfl⟩ rfl (Nat.le_of_ble_eq_true rfl) dX8_bring_10 ⟨Nat.zero_le _, Nat.zero_le _⟩) (fun r4 m3 H locs h2 hw => ?_)
  obtain ⟨er4, h2⟩ := h2
  rw [h2] at hw
  clear h2 m3
  refine lv_if_eq (tgt := 37) hx hb dX8_bring_13 (by decide) (fun c13_5 => ?_) (fun c13_5 => ?_)
  · skip
    rw [er4] at c13_5
    refine lv_aload_n hx hb dX8_bring_37 rfl (lv_at hl 0 rfl) ?_
    refine lv_iconst (v := 1) hx hb dX8_bring_38 (by decide) ?_
    refine zafter_i C hw (zrunV (rest := []) C hml hl.1 hw (zn12 hL) rfl rfl (c_X8_no l D cy ad m1 H.size hL 1) zv_X8_31 rfl rfl rfl ⟨Nat.le_of_ble_eq_true rfl, Nat.le_of_ble_eq_true rfl⟩ rfl (Nat.le_of_ble_eq_true rfl) dX8_bring_39 ⟨Nat.zero_le _, Nat.zero_le _⟩) (fun r8 m7 H locs h6 hw => ?_)
    obtain ⟨er8, em7⟩ := h6
    exact zret_i C hr hlocks hw dX8_bring_42 (by subst_vars; exact zpair (if_pos c13_5))
  · skip
    rw [er4] at c13_5
    refine lv_iload_n hx hb dX8_bring_16 rfl (lv_at hl 2 rfl) ?_
    refine lv_iconst (v := 0) hx hb dX8_bring_17 (by decide) ?_
    refine lv_sipush (v := 1000) hx hb dX8_bring_18 (by decide) ?_
    refine zafter_i C hw (zrunS (rest := []) C hml hl.1 hw (c_X8_isIn l D cy ad m1 H.size y 0 1000) zv_X8_27 rfl rfl rfl ⟨Nat.le_of_ble_eq_true rfl, Nat.le_of_ble_eq_true rfl⟩ rfl (Nat.le_of_ble_eq_true rfl) dX8_bring_21 ⟨Nat.zero_le _, Nat.zero_le _⟩) (fun r11 m10 H locs h9 hw => ?_)
    obtain ⟨er11, h9⟩ := h9
    rw [h9] at hw
    clear h9 m10
    refine lv_if_eq (tgt := 37) hx hb dX8_bring_24 (by decide) (fun c24_12 => ?_) (fun c24_12 => ?_)
    · skip
      rw [er11] at c24_12
      refine lv_aload_n hx hb dX8_bring_37 rfl (lv_at hl 0 rfl) ?_
      refine lv_iconst (v := 1) hx hb dX8_bring_38 (by decide) ?_
      refine zafter_i C hw (zrunV (rest := []) C hml hl.1 hw (zn12 hL) rfl rfl (c_X8_no l D cy ad m1 H.size hL 1) zv_X8_31 rfl rfl rfl ⟨Nat.le_of_ble_eq_true rfl, Nat.le_of_ble_eq_true rfl⟩ rfl (Nat.le_of_ble_eq_true rfl) dX8_bring_39 ⟨Nat.zero_le _, Nat.zero_le _⟩) (fun r15 m14 H locs h13 hw => ?_)
      obtain ⟨er15, em14⟩ := h13
      exact zret_i C hr hlocks hw dX8_bring_42 (by subst_vars; exact zpair ((if_neg c13_5).trans (if_pos c24_12)))
    · skip
      rw [er11] at c24_12
      refine lv_iload_n hx hb dX8_bring_27 rfl (lv_at hl 3 rfl) ?_
      refine lv_iconst (v := 1) hx hb dX8_bring_28 (by decide) ?_
      refine lv_bipush (v := 9) hx hb dX8_bring_29 (by decide) ?_
      refine zafter_i C hw (zrunS (rest := []) C hml hl.1 hw (c_X8_isIn l D cy ad m1 H.size z 1 9) zv_X8_27 rfl rfl rfl ⟨Nat.le_of_ble_eq_true rfl, Nat.le_of_ble_eq_true rfl⟩ rfl (Nat.le_of_ble_eq_true rfl) dX8_bring_31 ⟨Nat.zero_le _, Nat.zero_le _⟩) (fun r18 m17 H locs h16 hw => ?_)
      obtain ⟨er18, h16⟩ := h16
      rw [h16] at hw
      clear h16 m17
      refine lv_if_ne (tgt := 43) hx hb dX8_bring_34 (by decide) (fun c34_19 => ?_) (fun c34_19 => ?_)
      · skip
        rw [er18] at c34_19
        refine lv_aload_n hx hb dX8_bring_43 rfl (lv_at hl 0 rfl) ?_
        refine zg_X8_10 C hw (zn12 hL) dX8_bring_44 ?_
        refine zg_X8_79 C hw (zn13 hL (by decide)) dX8_bring_47 ?_
        refine ztop hln1 ?_
        refine lv_bipush (v := 30) hx hb dX8_bring_50 (by decide) ?_
        refine lv_icmp_ne (tgt := 61) hx hb dX8_bring_52 (by decide) (fun c52_20 => ?_) (fun c52_20 => ?_)
        · skip
          have n21 := zne c52_20 (a := ln) (b := 30) rfl rfl (by omega) (by omega)
          refine lv_iload_n hx hb dX8_bring_61 rfl (lv_at hl 1 rfl) ?_
          refine lv_iload_n hx hb dX8_bring_62 rfl (lv_at hl 2 rfl) ?_
          refine lv_imul hx hb dX8_bring_63 ?_
          refine lv_sipush (v := 1000) hx hb dX8_bring_64 (by decide) ?_
          refine lv_idiv hx hb dX8_bring_67 (by decide) ?_
          refine lv_topi (fun x22 ex22 => ?_)
          refine lv_istore (lv' := [(4, .int x22), (0, .ref (ad (12, 0, 0))), (1, .int x), (2, .int y), (3, .int z)]) hx hb dX8_bring_68 hl (by decide) rfl (fun ls hl => ?_)
          refine lv_aload_n hx hb dX8_bring_70 rfl (lv_at hl 1 rfl) ?_
          refine zg_X8_10 C hw (zn12 hL) dX8_bring_71 ?_
          refine lv_iload_n hx hb dX8_bring_74 rfl (lv_at hl 2 rfl) ?_
          refine lv_iload hx hb dX8_bring_75 (lv_at hl 0 rfl) ?_
          refine lv_isub hx hb dX8_bring_77 ?_
          refine lv_iload hx hb dX8_bring_78 (lv_at hl 0 rfl) ?_
          refine lv_iload_n hx hb dX8_bring_80 rfl (lv_at hl 4 rfl) ?_
          refine zafter_v C hw (zrunV (rest := []) C hml hl.1 hw (zn13 hL (by decide)) rfl rfl (c_X7_addLot l D cy ad m1 H.size hL (by decide) hln1 (by omega) (x - x22) x22 z) zv_X8_82 rfl rfl rfl ⟨Nat.le_of_ble_eq_true rfl, Nat.le_of_ble_eq_true rfl⟩ rfl (Nat.le_of_ble_eq_true rfl) dX8_bring_81 ⟨Nat.zero_le _, Nat.zero_le _⟩) (fun m24 H locs h23 hw => ?_)
          have em24 := h23
          refine lv_aload_n hx hb dX8_bring_84 rfl (lv_at hl 1 rfl) ?_
          refine zg_X8_10 C hw (zn12 hL) dX8_bring_85 ?_
          refine zg_X8_79 C hw (zn13 hL (by decide)) dX8_bring_88 ?_
          exact zret_i C hr hlocks hw dX8_bring_91 (by subst_vars; exact zpair ((if_neg c13_5).trans ((if_neg c24_12).trans ((if_neg c34_19).trans (if_neg c52_20)))))
        · skip
          have n26 := zeq c52_20 (a := ln) (b := 30) rfl rfl (by omega) (by omega)
          refine lv_aload_n hx hb dX8_bring_55 rfl (lv_at hl 0 rfl) ?_
          refine lv_iconst (v := 2) hx hb dX8_bring_56 (by decide) ?_
          refine zafter_i C hw (zrunV (rest := []) C hml hl.1 hw (zn12 hL) rfl rfl (c_X8_no l D cy ad m1 H.size hL 2) zv_X8_31 rfl rfl rfl ⟨Nat.le_of_ble_eq_true rfl, Nat.le_of_ble_eq_true rfl⟩ rfl (Nat.le_of_ble_eq_true rfl) dX8_bring_57 ⟨Nat.zero_le _, Nat.zero_le _⟩) (fun r29 m28 H locs h27 hw => ?_)
          obtain ⟨er29, em28⟩ := h27
          exact zret_i C hr hlocks hw dX8_bring_60 (by subst_vars; exact zpair ((if_neg c13_5).trans ((if_neg c24_12).trans ((if_neg c34_19).trans (if_pos c52_20)))))
      · skip
        rw [er18] at c34_19
        refine lv_aload_n hx hb dX8_bring_37 rfl (lv_at hl 0 rfl) ?_
        refine lv_iconst (v := 1) hx hb dX8_bring_38 (by decide) ?_
        refine zafter_i C hw (zrunV (rest := []) C hml hl.1 hw (zn12 hL) rfl rfl (c_X8_no l D cy ad m1 H.size hL 1) zv_X8_31 rfl rfl rfl ⟨Nat.le_of_ble_eq_true rfl, Nat.le_of_ble_eq_true rfl⟩ rfl (Nat.le_of_ble_eq_true rfl) dX8_bring_39 ⟨Nat.zero_le _, Nat.zero_le _⟩) (fun r32 m31 H locs h30 hw => ?_)
        obtain ⟨er32, em31⟩ := h30
        exact zret_i C hr hlocks hw dX8_bring_42 (by subst_vars; exact zpair ((if_neg c13_5).trans ((if_neg c24_12).trans (if_pos c34_19))))

set_option maxHeartbeats 4000000 in
set_option maxRecDepth 100000 in
theorem c_X8_lot (l : Launch) (D : va_G) (cy : Nat → ClassId) (ad : ZN → Nat) (m : ZM) (sz : Nat) {L : List ZN} (hL : zL L) {bc : Nat} {sc go : Nat → Nat} {hq ln : Nat} (G : gM m bc sc go hq ln) (i k : Int32) : Met l yX8_lot (zws yX8_lot cX8_lot 3 (some .int)) ({ frames := 1, cells := 0, slots := 0, locals := 22 } : Room) (zPc D cy ad L m sz [.ref (ad (12, 0, 0)), .int i, .int k]) (zQi (fun r m1 => r = (q8_lot m ln i k).1 ∧ m1 = (q8_lot m ln i k).2) D cy ad L sz) 0 0 (zA ad L sz) := by
  refine zopen (Qc := fun sz => zQi (fun r m1 => r = (q8_lot m ln i k).1 ∧ m1 = (q8_lot m ln i k).2) D cy ad L sz) RX8 (plainFor_of_name (by decide)) rfl (Nat.le_of_ble_eq_true rfl) ?_
  intro p e s mi below meth c ls C hr hlocks hml hl H locs hw
  obtain ⟨hx, hb, hts, hown, hK, hNw⟩ := id C
  have hl : lv_has ls 3 [(0, .ref (ad (12, 0, 0))), (1, .int i), (2, .int k)] := hl
  refine lv_aload_n hx hb dX8_lot_0 rfl (lv_at hl 0 rfl) ?_
  refine lv_iconst (v := 0) hx hb dX8_lot_1 (by decide) ?_
  refine zp_X8_23 C hw (zn12 hL) dX8_lot_2 (fun H locs m1 em1 hw => ?_)
  have GM1 : gM m1 bc sc go hq ln := by rw [em1]; exact gM_t G
  obtain ⟨⟨hbc1, lbc1, hbx1, hhd1, -, hhq1, lhq1, hld1⟩, hln1, lln1⟩ := id GM1
  refine lv_iload_n hx hb dX8_lot_5 rfl (lv_at hl 1 rfl) ?_
  refine lv_iconst (v := 0) hx hb dX8_lot_6 (by decide) ?_
  refine lv_aload_n hx hb dX8_lot_7 rfl (lv_at hl 0 rfl) ?_
  refine zg_X8_10 C hw (zn12 hL) dX8_lot_8 ?_
  refine zg_X8_79 C hw (zn13 hL (by decide)) dX8_lot_11 ?_
  refine ztop hln1 ?_
  refine lv_iconst (v := 1) hx hb dX8_lot_14 (by decide) ?_
  refine lv_isub hx hb dX8_lot_15 ?_
  refine zafter_i C hw (zrunS (rest := []) C hml hl.1 hw (c_X8_isIn l D cy ad m1 H.size i 0 (((nI ln) - 1))) zv_X8_27 rfl rfl rfl ⟨Nat.le_of_ble_eq_true rfl, Nat.le_of_ble_eq_true rfl⟩ rfl (Nat.le_of_ble_eq_true rfl) dX8_lot_16 ⟨Nat.zero_le _, Nat.zero_le _⟩) (fun r4 m3 H locs h2 hw => ?_)
  obtain ⟨er4, h2⟩ := h2
  rw [h2] at hw
  clear h2 m3
  refine lv_if_eq (tgt := 47) hx hb dX8_lot_19 (by decide) (fun c19_5 => ?_) (fun c19_5 => ?_)
  · skip
    rw [er4] at c19_5
    refine lv_aload_n hx hb dX8_lot_47 rfl (lv_at hl 0 rfl) ?_
    refine lv_iconst (v := 1) hx hb dX8_lot_48 (by decide) ?_
    refine zafter_i C hw (zrunV (rest := []) C hml hl.1 hw (zn12 hL) rfl rfl (c_X8_no l D cy ad m1 H.size hL 1) zv_X8_31 rfl rfl rfl ⟨Nat.le_of_ble_eq_true rfl, Nat.le_of_ble_eq_true rfl⟩ rfl (Nat.le_of_ble_eq_true rfl) dX8_lot_49 ⟨Nat.zero_le _, Nat.zero_le _⟩) (fun r8 m7 H locs h6 hw => ?_)
    obtain ⟨er8, em7⟩ := h6
    exact zret_i C hr hlocks hw dX8_lot_52 (by subst_vars; exact zpair (if_pos c19_5))
  · skip
    rw [er4] at c19_5
    obtain ⟨ui, uiu⟩ := q_isIn_box (x := i) (n := ln) (by omega) (fun q => c19_5 q)
    refine lv_iload_n hx hb dX8_lot_22 rfl (lv_at hl 2 rfl) ?_
    refine lv_iconst (v := 0) hx hb dX8_lot_23 (by decide) ?_
    refine lv_iconst (v := 2) hx hb dX8_lot_24 (by decide) ?_
    refine zafter_i C hw (zrunS (rest := []) C hml hl.1 hw (c_X8_isIn l D cy ad m1 H.size k 0 2) zv_X8_27 rfl rfl rfl ⟨Nat.le_of_ble_eq_true rfl, Nat.le_of_ble_eq_true rfl⟩ rfl (Nat.le_of_ble_eq_true rfl) dX8_lot_25 ⟨Nat.zero_le _, Nat.zero_le _⟩) (fun r11 m10 H locs h9 hw => ?_)
    obtain ⟨er11, h9⟩ := h9
    rw [h9] at hw
    clear h9 m10
    refine lv_if_eq (tgt := 47) hx hb dX8_lot_28 (by decide) (fun c28_12 => ?_) (fun c28_12 => ?_)
    · skip
      rw [er11] at c28_12
      refine lv_aload_n hx hb dX8_lot_47 rfl (lv_at hl 0 rfl) ?_
      refine lv_iconst (v := 1) hx hb dX8_lot_48 (by decide) ?_
      refine zafter_i C hw (zrunV (rest := []) C hml hl.1 hw (zn12 hL) rfl rfl (c_X8_no l D cy ad m1 H.size hL 1) zv_X8_31 rfl rfl rfl ⟨Nat.le_of_ble_eq_true rfl, Nat.le_of_ble_eq_true rfl⟩ rfl (Nat.le_of_ble_eq_true rfl) dX8_lot_49 ⟨Nat.zero_le _, Nat.zero_le _⟩) (fun r15 m14 H locs h13 hw => ?_)
      obtain ⟨er15, em14⟩ := h13
      exact zret_i C hr hlocks hw dX8_lot_52 (by subst_vars; exact zpair ((if_neg c19_5).trans (if_pos c28_12)))
    · skip
      rw [er11] at c28_12
      obtain ⟨uk, ukl, uku⟩ := q_isIn_ok (x := k) (a := 0) (b := 2) (by decide) (by decide) (fun q => c28_12 q)
      refine lv_aload_n hx hb dX8_lot_31 rfl (lv_at hl 0 rfl) ?_
      refine zg_X8_10 C hw (zn12 hL) dX8_lot_32 ?_
      refine zg_X8_86 C hw (zn13 hL (by decide)) dX8_lot_35 ?_
      refine lv_iconst (v := 3) hx hb dX8_lot_38 (by decide) ?_
      refine lv_iload_n hx hb dX8_lot_39 rfl (lv_at hl 1 rfl) ?_
      refine lv_imul hx hb dX8_lot_40 ?_
      refine lv_iload_n hx hb dX8_lot_41 rfl (lv_at hl 2 rfl) ?_
      refine lv_iadd hx hb dX8_lot_42 ?_
      refine zaldN C hw (zq20 (w := 0) hL (by decide)) ((3 * i.toNatClampNeg) + k.toNatClampNeg) (by omega) (zadd (zmul rfl ui) uk) (by decide) dX8_lot_43 ?_
      refine lv_goto (tgt := 52) hx hb dX8_lot_44 (by decide) ?_
      exact zret_i C hr hlocks hw dX8_lot_52 (by subst_vars; exact zpair ((if_neg c19_5).trans (if_neg c28_12)))

set_option maxHeartbeats 4000000 in
set_option maxRecDepth 100000 in
theorem c_X8_run (l : Launch) (D : va_G) (cy : Nat → ClassId) (ad : ZN → Nat) (m : ZM) (sz : Nat) {L : List ZN} (hL : zL L) {w : Nat} (gw : w < 2) {bc : Nat} {sc go : Nat → Nat} {hq : Nat} (G : gS m w bc sc go hq) (n : Nat) (ln1 : n ≤ 100) (lq : hq + n < 2 ^ 30) : Met l yX8_run (zws yX8_run cX8_run 4 (some .int)) ({ frames := 4, cells := 0, slots := 0, locals := 99 } : Room) (zPc D cy ad L m sz [.ref (ad (13, w, 0)), .int (nI n)]) (zQi (fun r m1 => r = q_runT7 m w bc sc go hq n ∧ m1 = q_runM7 m w bc sc go hq n) D cy ad L sz) 0 0 (zA ad L sz) := by
  refine zopen (Qc := fun sz => zQi (fun r m1 => r = q_runT7 m w bc sc go hq n ∧ m1 = q_runM7 m w bc sc go hq n) D cy ad L sz) RX8 (plainFor_of_name (by decide)) rfl (Nat.le_of_ble_eq_true rfl) ?_
  intro p e s mi below meth c ls C hr hlocks hml hl H locs hw
  obtain ⟨hx, hb, hts, hown, hK, hNw⟩ := id C
  have hl : lv_has ls 4 [(0, .ref (ad (13, w, 0))), (1, .int (nI n))] := hl
  refine lv_iconst (v := 0) hx hb dX8_run_0 (by decide) ?_
  refine lv_istore_n (lv' := [(2, .int 0), (0, .ref (ad (13, w, 0))), (1, .int (nI n))]) hx hb dX8_run_1 rfl hl (by decide) rfl (fun ls hl => ?_)
  refine lv_iconst (v := 0) hx hb dX8_run_2 (by decide) ?_
  refine lv_istore_n (lv' := [(3, .int 0), (2, .int 0), (0, .ref (ad (13, w, 0))), (1, .int (nI n))]) hx hb dX8_run_3 rfl hl (by decide) rfl (fun ls hl => ?_)
  have loop4 : ∀ (z : Nat) (k : Nat) (x : Int32) (m0 : ZM) (H : Heap) (locs : List Loc) (ls : Array Slot), n - k = z → (k ≤ n) → (m0 = q_runM7 m w bc sc go hq k) → (x = q_runT7 m w bc sc go hq k) → zH D cy ad L s.heap H locs m0 → lv_has ls 4 [(0, .ref (ad (13, w, 0))), (1, .int (nI n)), (2, .int x), (3, .int (nI k))] → W p l e ({ frames := 4, cells := 0, slots := 0, locals := 99 } : Room) s mi [.ref (ad (13, w, 0)), .int (nI n)].toArray below meth c H locs 0 0 (MQ below (zQi (fun r m1 => r = q_runT7 m w bc sc go hq n ∧ m1 = q_runM7 m w bc sc go hq n) D cy ad L s.heap.size) [.ref (ad (13, w, 0)), .int (nI n)].toArray s 0 0 (zA ad L s.heap.size)) (F0 mi 4 ls []) := by
    intro z
    induction z using Nat.strongRecOn with
    | _ z ih4 =>
    intro k x m0 H locs ls hz4 i4_1 i4_2 i4_3 hw hl
    have G0 : gS m0 w bc sc go (hq + k) := by rw [i4_2]; exact gS_run G (by omega)
    refine lv_iload_n hx hb dX8_run_4 rfl (lv_at hl 3 rfl) ?_
    refine lv_iload_n hx hb dX8_run_5 rfl (lv_at hl 1 rfl) ?_
    refine lv_icmp_ge (tgt := 22) hx hb dX8_run_6 (by decide) (fun c6_1 => ?_) (fun c6_1 => ?_)
    · skip
      have n2 := zle c6_1 (a := n) (b := k) rfl rfl (by omega) (by omega)
      refine lv_iload_n hx hb dX8_run_22 rfl (lv_at hl 2 rfl) ?_
      exact zret_i C hr hlocks hw dX8_run_23 ⟨by rw [i4_3, show k = n by omega], by rw [i4_2, show k = n by omega]⟩
    · skip
      have n3 := znle c6_1 (a := n) (b := k) rfl rfl (by omega) (by omega)
      refine lv_iload_n hx hb dX8_run_9 rfl (lv_at hl 2 rfl) ?_
      refine lv_aload_n hx hb dX8_run_10 rfl (lv_at hl 0 rfl) ?_
      refine zafter_i C hw (zrunV (rest := [.int x]) C hml hl.1 hw (zn13 hL gw) rfl rfl (c_X7_pass l D cy ad m0 H.size hL gw G0) zv_X8_89 rfl rfl rfl ⟨Nat.le_of_ble_eq_true rfl, Nat.le_of_ble_eq_true rfl⟩ rfl (Nat.le_of_ble_eq_true rfl) dX8_run_11 ⟨Nat.zero_le _, Nat.zero_le _⟩) (fun r6 m5 H locs h4 hw => ?_)
      obtain ⟨er6, em5⟩ := h4
      refine lv_iadd hx hb dX8_run_14 ?_
      refine lv_topi (fun x7 ex7 => ?_)
      refine lv_istore_n (lv' := [(2, .int x7), (0, .ref (ad (13, w, 0))), (1, .int (nI n)), (3, .int (nI k))]) hx hb dX8_run_15 rfl hl (by decide) rfl (fun ls hl => ?_)
      refine lv_iinc (v := (nI (k + 1))) (lv' := [(3, .int (nI (k + 1))), (2, .int x7), (0, .ref (ad (13, w, 0))), (1, .int (nI n))]) hx hb dX8_run_16 hl (k := 3) rfl (nI_1 k) (by decide) rfl (fun ls hl => ?_)
      refine lv_goto (tgt := 4) hx hb dX8_run_19 (by decide) ?_
      exact ih4 _ (by omega) (k + 1) x7 m5 _ _ _ rfl (by omega) (by rw [em5, i4_2]; rfl) (by rw [ex7, er6, i4_2, i4_3]; rfl) hw (lv_sub hl [2, 3, 1, 0] rfl)
  exact loop4 _ 0 0 m _ _ _ rfl (Nat.zero_le _) rfl rfl hw (lv_sub hl [2, 3, 1, 0] rfl)

set_option maxHeartbeats 4000000 in
set_option maxRecDepth 100000 in
theorem c_X8_run_ (l : Launch) (D : va_G) (cy : Nat → ClassId) (ad : ZN → Nat) (m : ZM) (sz : Nat) {L : List ZN} (hL : zL L) {bc : Nat} {sc go : Nat → Nat} {hq ln : Nat} (G : gM m bc sc go hq ln) (lq : hq ≤ 5000) (h : Int32) : Met l yX8_run_ (zws yX8_run_ cX8_run_ 2 (some .int)) ({ frames := 5, cells := 0, slots := 0, locals := 122 } : Room) (zPc D cy ad L m sz [.ref (ad (12, 0, 0)), .int h]) (zQi (fun r m1 => r = (q8_run m bc sc go hq h).1 ∧ m1 = (q8_run m bc sc go hq h).2) D cy ad L sz) 0 0 (zA ad L sz) := by
  refine zopen (Qc := fun sz => zQi (fun r m1 => r = (q8_run m bc sc go hq h).1 ∧ m1 = (q8_run m bc sc go hq h).2) D cy ad L sz) RX8 (plainFor_of_name (by decide)) rfl (Nat.le_of_ble_eq_true rfl) ?_
  intro p e s mi below meth c ls C hr hlocks hml hl H locs hw
  obtain ⟨hx, hb, hts, hown, hK, hNw⟩ := id C
  have hl : lv_has ls 2 [(0, .ref (ad (12, 0, 0))), (1, .int h)] := hl
  refine lv_aload_n hx hb dX8_run__0 rfl (lv_at hl 0 rfl) ?_
  refine lv_iconst (v := 0) hx hb dX8_run__1 (by decide) ?_
  refine zp_X8_23 C hw (zn12 hL) dX8_run__2 (fun H locs m1 em1 hw => ?_)
  have GM1 : gM m1 bc sc go hq ln := by rw [em1]; exact gM_t G
  obtain ⟨⟨hbc1, lbc1, hbx1, hhd1, -, hhq1, lhq1, hld1⟩, hln1, lln1⟩ := id GM1
  refine lv_iload_n hx hb dX8_run__5 rfl (lv_at hl 1 rfl) ?_
  refine lv_iconst (v := 1) hx hb dX8_run__6 (by decide) ?_
  refine lv_bipush (v := 100) hx hb dX8_run__7 (by decide) ?_
  refine zafter_i C hw (zrunS (rest := []) C hml hl.1 hw (c_X8_isIn l D cy ad m1 H.size h 1 100) zv_X8_27 rfl rfl rfl ⟨Nat.le_of_ble_eq_true rfl, Nat.le_of_ble_eq_true rfl⟩ rfl (Nat.le_of_ble_eq_true rfl) dX8_run__9 ⟨Nat.zero_le _, Nat.zero_le _⟩) (fun r4 m3 H locs h2 hw => ?_)
  obtain ⟨er4, h2⟩ := h2
  rw [h2] at hw
  clear h2 m3
  refine lv_if_ne (tgt := 21) hx hb dX8_run__12 (by decide) (fun c12_5 => ?_) (fun c12_5 => ?_)
  · skip
    rw [er4] at c12_5
    obtain ⟨uh, uhl, uhu⟩ := q_isIn_ok (x := h) (a := 1) (b := 100) (by decide) (by decide) (fun q => c12_5 q)
    refine lv_aload_n hx hb dX8_run__21 rfl (lv_at hl 0 rfl) ?_
    refine zg_X8_10 C hw (zn12 hL) dX8_run__22 ?_
    refine zg_X8_93 C hw (zn13 hL (by decide)) dX8_run__25 ?_
    refine ztop hhq1 ?_
    refine lv_iload_n hx hb dX8_run__28 rfl (lv_at hl 1 rfl) ?_
    refine lv_iadd hx hb dX8_run__29 ?_
    refine lv_sipush (v := 5000) hx hb dX8_run__30 (by decide) ?_
    refine lv_icmp_le (tgt := 42) hx hb dX8_run__33 (by decide) (fun c33_6 => ?_) (fun c33_6 => ?_)
    · skip
      have n7 := zle c33_6 (a := (hq + h.toNatClampNeg)) (b := 5000) (zadd rfl uh) rfl (by omega) (by omega)
      refine lv_aload_n hx hb dX8_run__42 rfl (lv_at hl 0 rfl) ?_
      refine zg_X8_10 C hw (zn12 hL) dX8_run__43 ?_
      refine lv_iload_n hx hb dX8_run__46 rfl (lv_at hl 1 rfl) ?_
      refine W.eq (congrArg (fun z : Int32 => F0 mi 47 ls [.int z, .ref (ad (13, 0, 0))]) (show h = nI h.toNatClampNeg from uh)) ?_
      refine zafter_i C hw (zrunS (rest := []) C hml hl.1 hw (c_X8_run l D cy ad m1 H.size hL (by decide) GM1.1 h.toNatClampNeg (by omega) (by omega)) zv_X8_96 rfl rfl rfl ⟨Nat.le_of_ble_eq_true rfl, Nat.le_of_ble_eq_true rfl⟩ rfl (Nat.le_of_ble_eq_true rfl) dX8_run__47 ⟨Nat.zero_le _, Nat.zero_le _⟩) (fun r10 m9 H locs h8 hw => ?_)
      obtain ⟨er10, em9⟩ := h8
      exact zret_i C hr hlocks hw dX8_run__50 (by subst_vars; exact zpair ((if_neg c12_5).trans (if_pos c33_6)))
    · skip
      have n11 := znle c33_6 (a := (hq + h.toNatClampNeg)) (b := 5000) (zadd rfl uh) rfl (by omega) (by omega)
      refine lv_aload_n hx hb dX8_run__36 rfl (lv_at hl 0 rfl) ?_
      refine lv_iconst (v := 2) hx hb dX8_run__37 (by decide) ?_
      refine zafter_i C hw (zrunV (rest := []) C hml hl.1 hw (zn12 hL) rfl rfl (c_X8_no l D cy ad m1 H.size hL 2) zv_X8_31 rfl rfl rfl ⟨Nat.le_of_ble_eq_true rfl, Nat.le_of_ble_eq_true rfl⟩ rfl (Nat.le_of_ble_eq_true rfl) dX8_run__38 ⟨Nat.zero_le _, Nat.zero_le _⟩) (fun r14 m13 H locs h12 hw => ?_)
      obtain ⟨er14, em13⟩ := h12
      exact zret_i C hr hlocks hw dX8_run__41 (by subst_vars; exact zpair ((if_neg c12_5).trans (if_neg c33_6)))
  · skip
    rw [er4] at c12_5
    refine lv_aload_n hx hb dX8_run__15 rfl (lv_at hl 0 rfl) ?_
    refine lv_iconst (v := 1) hx hb dX8_run__16 (by decide) ?_
    refine zafter_i C hw (zrunV (rest := []) C hml hl.1 hw (zn12 hL) rfl rfl (c_X8_no l D cy ad m1 H.size hL 1) zv_X8_31 rfl rfl rfl ⟨Nat.le_of_ble_eq_true rfl, Nat.le_of_ble_eq_true rfl⟩ rfl (Nat.le_of_ble_eq_true rfl) dX8_run__17 ⟨Nat.zero_le _, Nat.zero_le _⟩) (fun r17 m16 H locs h15 hw => ?_)
    obtain ⟨er17, em16⟩ := h15
    exact zret_i C hr hlocks hw dX8_run__20 (by subst_vars; exact zpair (if_pos c12_5))

set_option maxHeartbeats 4000000 in
set_option maxRecDepth 100000 in
theorem c_X8_tinInBoxes (l : Launch) (D : va_G) (cy : Nat → ClassId) (ad : ZN → Nat) (m : ZM) (sz : Nat) {L : List ZN} (hL : zL L) {bc : Nat} (hbc : m (13, 0, 0) 4 = nI bc) (lbc : bc ≤ 4) : Met l yX8_tinInBoxes (zws yX8_tinInBoxes cX8_tinInBoxes 3 (some .int)) ({ frames := 0, cells := 0, slots := 0, locals := 0 } : Room) (zPc D cy ad L m sz [.ref (ad (12, 0, 0))]) (zQi (fun r m1 => r = q8_tinIn m (3 * bc) ∧ m1 = m) D cy ad L sz) 0 0 (zA ad L sz) := by
  refine zopen (Qc := fun sz => zQi (fun r m1 => r = q8_tinIn m (3 * bc) ∧ m1 = m) D cy ad L sz) RX8 (plainFor_of_name (by decide)) rfl (Nat.le_of_ble_eq_true rfl) ?_
  intro p e s mi below meth c ls C hr hlocks hml hl H locs hw
  obtain ⟨hx, hb, hts, hown, hK, hNw⟩ := id C
  have hl : lv_has ls 3 [(0, .ref (ad (12, 0, 0)))] := hl
  refine lv_iconst (v := 0) hx hb dX8_tinInBoxes_0 (by decide) ?_
  refine lv_istore_n (lv' := [(1, .int 0), (0, .ref (ad (12, 0, 0)))]) hx hb dX8_tinInBoxes_1 rfl hl (by decide) rfl (fun ls hl => ?_)
  refine lv_iconst (v := 0) hx hb dX8_tinInBoxes_2 (by decide) ?_
  refine lv_istore_n (lv' := [(2, .int 0), (1, .int 0), (0, .ref (ad (12, 0, 0)))]) hx hb dX8_tinInBoxes_3 rfl hl (by decide) rfl (fun ls hl => ?_)
  have loop4 : ∀ (z : Nat) (k : Nat) (x : Int32) (H : Heap) (locs : List Loc) (ls : Array Slot), 3 * bc - k = z → (k ≤ 3 * bc) → (x = q8_tinIn m k) → zH D cy ad L s.heap H locs m → lv_has ls 3 [(0, .ref (ad (12, 0, 0))), (1, .int x), (2, .int (nI k))] → W p l e ({ frames := 0, cells := 0, slots := 0, locals := 0 } : Room) s mi [.ref (ad (12, 0, 0))].toArray below meth c H locs 0 0 (MQ below (zQi (fun r m1 => r = q8_tinIn m (3 * bc) ∧ m1 = m) D cy ad L s.heap.size) [.ref (ad (12, 0, 0))].toArray s 0 0 (zA ad L s.heap.size)) (F0 mi 4 ls []) := by
    intro z
    induction z using Nat.strongRecOn with
    | _ z ih4 =>
    intro k x H locs ls hz4 i4_1 i4_2 hw hl
    refine lv_iload_n hx hb dX8_tinInBoxes_4 rfl (lv_at hl 2 rfl) ?_
    refine lv_aload_n hx hb dX8_tinInBoxes_5 rfl (lv_at hl 0 rfl) ?_
    refine zg_X8_10 C hw (zn12 hL) dX8_tinInBoxes_6 ?_
    refine zg_X8_41 C hw (zn13 hL (by decide)) dX8_tinInBoxes_9 ?_
    refine ztop hbc ?_
    refine lv_iconst (v := 3) hx hb dX8_tinInBoxes_12 (by decide) ?_
    refine lv_imul hx hb dX8_tinInBoxes_13 ?_
    refine lv_icmp_ge (tgt := 39) hx hb dX8_tinInBoxes_14 (by decide) (fun c14_1 => ?_) (fun c14_1 => ?_)
    · skip
      have n2 := zle c14_1 (a := (bc * 3)) (b := k) (zmul rfl rfl) rfl (by omega) (by omega)
      refine lv_iload_n hx hb dX8_tinInBoxes_39 rfl (lv_at hl 1 rfl) ?_
      exact zret_i C hr hlocks hw dX8_tinInBoxes_40 ⟨by rw [i4_2, show k = 3 * bc by omega], rfl⟩
    · skip
      have n3 := znle c14_1 (a := (bc * 3)) (b := k) (zmul rfl rfl) rfl (by omega) (by omega)
      refine lv_iload_n hx hb dX8_tinInBoxes_17 rfl (lv_at hl 1 rfl) ?_
      refine lv_aload_n hx hb dX8_tinInBoxes_18 rfl (lv_at hl 0 rfl) ?_
      refine zg_X8_10 C hw (zn12 hL) dX8_tinInBoxes_19 ?_
      refine zg_X8_69 C hw (zn13 hL (by decide)) dX8_tinInBoxes_22 ?_
      refine lv_iconst (v := 2) hx hb dX8_tinInBoxes_25 (by decide) ?_
      refine lv_iload_n hx hb dX8_tinInBoxes_26 rfl (lv_at hl 2 rfl) ?_
      refine lv_imul hx hb dX8_tinInBoxes_27 ?_
      refine lv_iconst (v := 1) hx hb dX8_tinInBoxes_28 (by decide) ?_
      refine lv_iadd hx hb dX8_tinInBoxes_29 ?_
      refine zaldN C hw (zq19 (w := 0) hL (by decide)) ((2 * k) + 1) (by omega) (zadd (zmul rfl rfl) rfl) (by decide) dX8_tinInBoxes_30 ?_
      refine lv_iadd hx hb dX8_tinInBoxes_31 ?_
      refine lv_topi (fun x4 ex4 => ?_)
      refine lv_istore_n (lv' := [(1, .int x4), (0, .ref (ad (12, 0, 0))), (2, .int (nI k))]) hx hb dX8_tinInBoxes_32 rfl hl (by decide) rfl (fun ls hl => ?_)
      refine lv_iinc (v := (nI (k + 1))) (lv' := [(2, .int (nI (k + 1))), (1, .int x4), (0, .ref (ad (12, 0, 0)))]) hx hb dX8_tinInBoxes_33 hl (k := 2) rfl (nI_1 k) (by decide) rfl (fun ls hl => ?_)
      refine lv_goto (tgt := 4) hx hb dX8_tinInBoxes_36 (by decide) ?_
      exact ih4 _ (by omega) (k + 1) x4 _ _ _ rfl (by omega) (by rw [ex4, i4_2]; rfl) hw (lv_sub hl [2, 1, 0] rfl)
  exact loop4 _ 0 0 _ _ _ rfl (Nat.zero_le _) rfl hw (lv_sub hl [2, 1, 0] rfl)

set_option maxHeartbeats 4000000 in
set_option maxRecDepth 100000 in
theorem c_X8_grade (l : Launch) (D : va_G) (cy : Nat → ClassId) (ad : ZN → Nat) (m : ZM) (sz : Nat) {L : List ZN} (a b : Int64) : Met l yX8_grade (zws yX8_grade cX8_grade 4 (some .int)) ({ frames := 0, cells := 0, slots := 0, locals := 0 } : Room) (zPc D cy ad L m sz [.long a, .long b]) (zQi (fun r m1 => r = q8_grade a b ∧ m1 = m) D cy ad L sz) 0 0 (zA ad L sz) := by
  refine zopen (Qc := fun sz => zQi (fun r m1 => r = q8_grade a b ∧ m1 = m) D cy ad L sz) RX8 (plainFor_of_name (by decide)) rfl (Nat.le_of_ble_eq_true rfl) ?_
  intro p e s mi below meth c ls C hr hlocks hml hl H locs hw
  obtain ⟨hx, hb, hts, hown, hK, hNw⟩ := id C
  have hl : lv_has ls 4 [(0, .long a), (2, .long b)] := hl
  refine lv_lload_n hx hb dX8_grade_0 rfl (lv_at hl 0 rfl) ?_
  refine lv_lload_n hx hb dX8_grade_1 rfl (lv_at hl 1 rfl) ?_
  refine lv_ladd hx hb dX8_grade_2 ?_
  refine lv_lconst (v := 0) hx hb dX8_grade_3 (by decide) ?_
  refine W.lcmp hx hb dX8_grade_4 ?_
  refine lv_if_ne (tgt := 12) hx hb dX8_grade_5 (by decide) (fun c5_1 => ?_) (fun c5_1 => ?_)
  · skip
    refine lv_lload_n hx hb dX8_grade_12 rfl (lv_at hl 1 rfl) ?_
    refine lv_ldc2 hx hb hown (hts _ zK_X8_127) dX8_grade_13 ?_
    refine lv_lmul hx hb dX8_grade_16 ?_
    refine lv_lload_n hx hb dX8_grade_17 rfl (lv_at hl 0 rfl) ?_
    refine lv_lload_n hx hb dX8_grade_18 rfl (lv_at hl 1 rfl) ?_
    refine lv_ladd hx hb dX8_grade_19 ?_
    refine lv_ldiv hx hb dX8_grade_20 (fun q => c5_1 (by rw [q]; rfl)) ?_
    refine lv_l2i hx hb dX8_grade_21 rfl ?_
    exact zret_i C hr hlocks hw dX8_grade_22 ⟨(by first | rfl | exact (if_neg c5_1).symm | (subst_vars; first | rfl | exact (if_neg c5_1).symm)), (by first | rfl | exact (if_neg c5_1).symm | (subst_vars; first | rfl | exact (if_neg c5_1).symm))⟩
  · skip
    refine lv_iconst (v := 0) hx hb dX8_grade_8 (by decide) ?_
    refine lv_goto (tgt := 22) hx hb dX8_grade_9 (by decide) ?_
    exact zret_i C hr hlocks hw dX8_grade_22 ⟨(by first | rfl | exact (if_pos c5_1).symm | (subst_vars; first | rfl | exact (if_pos c5_1).symm)), (by first | rfl | exact (if_pos c5_1).symm | (subst_vars; first | rfl | exact (if_pos c5_1).symm))⟩

set_option maxHeartbeats 4000000 in
set_option maxRecDepth 100000 in
theorem c_X8_buddleTold (l : Launch) (D : va_G) (cy : Nat → ClassId) (ad : ZN → Nat) (m : ZM) (sz : Nat) {L : List ZN} (hL : zL L) (b k : Nat) (gb : b < 3) (gk : k ≤ 2) : Met l yX8_buddleTold (zws yX8_buddleTold cX8_buddleTold 3 (some .int)) ({ frames := 1, cells := 0, slots := 0, locals := 23 } : Room) (zPc D cy ad L m sz [.ref (ad (12, 0, 0)), .int (nI b), .int (nI k)]) (zQi (fun r m1 => r = q8_budTold m b k ∧ m1 = m) D cy ad L sz) 0 0 (zA ad L sz) := by
  refine zopen (Qc := fun sz => zQi (fun r m1 => r = q8_budTold m b k ∧ m1 = m) D cy ad L sz) RX8 (plainFor_of_name (by decide)) rfl (Nat.le_of_ble_eq_true rfl) ?_
  intro p e s mi below meth c ls C hr hlocks hml hl H locs hw
  obtain ⟨hx, hb, hts, hown, hK, hNw⟩ := id C
  have hl : lv_has ls 3 [(0, .ref (ad (12, 0, 0))), (1, .int (nI b)), (2, .int (nI k))] := hl
  refine lv_iload_n hx hb dX8_buddleTold_0 rfl (lv_at hl 2 rfl) ?_
  refine lv_iconst (v := 2) hx hb dX8_buddleTold_1 (by decide) ?_
  refine lv_icmp_ge (tgt := 21) hx hb dX8_buddleTold_2 (by decide) (fun c2_1 => ?_) (fun c2_1 => ?_)
  · skip
    have n2 := zle c2_1 (a := 2) (b := k) rfl rfl (by omega) (by omega)
    refine lv_aload_n hx hb dX8_buddleTold_21 rfl (lv_at hl 0 rfl) ?_
    refine zg_X8_10 C hw (zn12 hL) dX8_buddleTold_22 ?_
    refine zg_X8_129 C hw (zn13 hL (by decide)) dX8_buddleTold_25 ?_
    refine lv_iconst (v := 2) hx hb dX8_buddleTold_28 (by decide) ?_
    refine lv_iload_n hx hb dX8_buddleTold_29 rfl (lv_at hl 1 rfl) ?_
    refine lv_imul hx hb dX8_buddleTold_30 ?_
    refine zaldN C hw (zq21 (w := 0) hL (by decide)) (2 * b) (by omega) (zmul rfl rfl) (by decide) dX8_buddleTold_31 ?_
    refine lv_i2l hx hb dX8_buddleTold_32 rfl ?_
    refine lv_aload_n hx hb dX8_buddleTold_33 rfl (lv_at hl 0 rfl) ?_
    refine zg_X8_10 C hw (zn12 hL) dX8_buddleTold_34 ?_
    refine zg_X8_129 C hw (zn13 hL (by decide)) dX8_buddleTold_37 ?_
    refine lv_iconst (v := 2) hx hb dX8_buddleTold_40 (by decide) ?_
    refine lv_iload_n hx hb dX8_buddleTold_41 rfl (lv_at hl 1 rfl) ?_
    refine lv_imul hx hb dX8_buddleTold_42 ?_
    refine lv_iconst (v := 1) hx hb dX8_buddleTold_43 (by decide) ?_
    refine lv_iadd hx hb dX8_buddleTold_44 ?_
    refine zaldN C hw (zq21 (w := 0) hL (by decide)) ((2 * b) + 1) (by omega) (zadd (zmul rfl rfl) rfl) (by decide) dX8_buddleTold_45 ?_
    refine lv_i2l hx hb dX8_buddleTold_46 rfl ?_
    refine zafter_i C hw (zrunS (rest := []) C hml hl.1 hw (c_X8_grade l D cy ad m H.size (m (2, 21 + 20 * 0, 6) (2 * b)).toInt64 (m (2, 21 + 20 * 0, 6) ((2 * b) + 1)).toInt64) zv_X8_132 rfl rfl rfl ⟨Nat.le_of_ble_eq_true rfl, Nat.le_of_ble_eq_true rfl⟩ rfl (Nat.le_of_ble_eq_true rfl) dX8_buddleTold_47 ⟨Nat.zero_le _, Nat.zero_le _⟩) (fun r5 m4 H locs h3 hw => ?_)
    obtain ⟨er5, h3⟩ := h3
    rw [h3] at hw
    clear h3 m4
    exact zret_i C hr hlocks hw dX8_buddleTold_50 ⟨(by first | rfl | exact (if_pos c2_1).symm | (subst_vars; first | rfl | exact (if_pos c2_1).symm)), (by first | rfl | exact (if_pos c2_1).symm | (subst_vars; first | rfl | exact (if_pos c2_1).symm))⟩
  · skip
    have n6 := znle c2_1 (a := 2) (b := k) rfl rfl (by omega) (by omega)
    refine lv_aload_n hx hb dX8_buddleTold_5 rfl (lv_at hl 0 rfl) ?_
    refine zg_X8_10 C hw (zn12 hL) dX8_buddleTold_6 ?_
    refine zg_X8_129 C hw (zn13 hL (by decide)) dX8_buddleTold_9 ?_
    refine lv_iconst (v := 2) hx hb dX8_buddleTold_12 (by decide) ?_
    refine lv_iload_n hx hb dX8_buddleTold_13 rfl (lv_at hl 1 rfl) ?_
    refine lv_imul hx hb dX8_buddleTold_14 ?_
    refine lv_iload_n hx hb dX8_buddleTold_15 rfl (lv_at hl 2 rfl) ?_
    refine lv_iadd hx hb dX8_buddleTold_16 ?_
    refine zaldN C hw (zq21 (w := 0) hL (by decide)) ((2 * b) + k) (by omega) (zadd (zmul rfl rfl) rfl) (by decide) dX8_buddleTold_17 ?_
    refine lv_goto (tgt := 50) hx hb dX8_buddleTold_18 (by decide) ?_
    exact zret_i C hr hlocks hw dX8_buddleTold_50 ⟨(by first | rfl | exact (if_neg c2_1).symm | (subst_vars; first | rfl | exact (if_neg c2_1).symm)), (by first | rfl | exact (if_neg c2_1).symm | (subst_vars; first | rfl | exact (if_neg c2_1).symm))⟩

set_option maxHeartbeats 4000000 in
set_option maxRecDepth 100000 in
theorem c_X8_buddle (l : Launch) (D : va_G) (cy : Nat → ClassId) (ad : ZN → Nat) (m : ZM) (sz : Nat) {L : List ZN} (hL : zL L) (b k : Int32) : Met l yX8_buddle (zws yX8_buddle cX8_buddle 3 (some .int)) ({ frames := 2, cells := 0, slots := 0, locals := 45 } : Room) (zPc D cy ad L m sz [.ref (ad (12, 0, 0)), .int b, .int k]) (zQi (fun r m1 => r = (q8_buddle m b k).1 ∧ m1 = (q8_buddle m b k).2) D cy ad L sz) 0 0 (zA ad L sz) := by
  refine zopen (Qc := fun sz => zQi (fun r m1 => r = (q8_buddle m b k).1 ∧ m1 = (q8_buddle m b k).2) D cy ad L sz) RX8 (plainFor_of_name (by decide)) rfl (Nat.le_of_ble_eq_true rfl) ?_
  intro p e s mi below meth c ls C hr hlocks hml hl H locs hw
  obtain ⟨hx, hb, hts, hown, hK, hNw⟩ := id C
  have hl : lv_has ls 3 [(0, .ref (ad (12, 0, 0))), (1, .int b), (2, .int k)] := hl
  refine lv_aload_n hx hb dX8_buddle_0 rfl (lv_at hl 0 rfl) ?_
  refine lv_iconst (v := 0) hx hb dX8_buddle_1 (by decide) ?_
  refine zp_X8_23 C hw (zn12 hL) dX8_buddle_2 (fun H locs m1 em1 hw => ?_)
  refine lv_iload_n hx hb dX8_buddle_5 rfl (lv_at hl 1 rfl) ?_
  refine lv_iconst (v := 0) hx hb dX8_buddle_6 (by decide) ?_
  refine lv_iconst (v := 2) hx hb dX8_buddle_7 (by decide) ?_
  refine zafter_i C hw (zrunS (rest := []) C hml hl.1 hw (c_X8_isIn l D cy ad m1 H.size b 0 2) zv_X8_27 rfl rfl rfl ⟨Nat.le_of_ble_eq_true rfl, Nat.le_of_ble_eq_true rfl⟩ rfl (Nat.le_of_ble_eq_true rfl) dX8_buddle_8 ⟨Nat.zero_le _, Nat.zero_le _⟩) (fun r4 m3 H locs h2 hw => ?_)
  obtain ⟨er4, h2⟩ := h2
  rw [h2] at hw
  clear h2 m3
  refine lv_if_eq (tgt := 32) hx hb dX8_buddle_11 (by decide) (fun c11_5 => ?_) (fun c11_5 => ?_)
  · skip
    rw [er4] at c11_5
    refine lv_aload_n hx hb dX8_buddle_32 rfl (lv_at hl 0 rfl) ?_
    refine lv_iconst (v := 1) hx hb dX8_buddle_33 (by decide) ?_
    refine zafter_i C hw (zrunV (rest := []) C hml hl.1 hw (zn12 hL) rfl rfl (c_X8_no l D cy ad m1 H.size hL 1) zv_X8_31 rfl rfl rfl ⟨Nat.le_of_ble_eq_true rfl, Nat.le_of_ble_eq_true rfl⟩ rfl (Nat.le_of_ble_eq_true rfl) dX8_buddle_34 ⟨Nat.zero_le _, Nat.zero_le _⟩) (fun r8 m7 H locs h6 hw => ?_)
    obtain ⟨er8, em7⟩ := h6
    exact zret_i C hr hlocks hw dX8_buddle_37 (by subst_vars; exact zpair (if_pos c11_5))
  · skip
    rw [er4] at c11_5
    obtain ⟨ub, ubl, ubu⟩ := q_isIn_ok (x := b) (a := 0) (b := 2) (by decide) (by decide) (fun q => c11_5 q)
    refine lv_iload_n hx hb dX8_buddle_14 rfl (lv_at hl 2 rfl) ?_
    refine lv_iconst (v := 0) hx hb dX8_buddle_15 (by decide) ?_
    refine lv_iconst (v := 2) hx hb dX8_buddle_16 (by decide) ?_
    refine zafter_i C hw (zrunS (rest := []) C hml hl.1 hw (c_X8_isIn l D cy ad m1 H.size k 0 2) zv_X8_27 rfl rfl rfl ⟨Nat.le_of_ble_eq_true rfl, Nat.le_of_ble_eq_true rfl⟩ rfl (Nat.le_of_ble_eq_true rfl) dX8_buddle_17 ⟨Nat.zero_le _, Nat.zero_le _⟩) (fun r11 m10 H locs h9 hw => ?_)
    obtain ⟨er11, h9⟩ := h9
    rw [h9] at hw
    clear h9 m10
    refine lv_if_eq (tgt := 32) hx hb dX8_buddle_20 (by decide) (fun c20_12 => ?_) (fun c20_12 => ?_)
    · skip
      rw [er11] at c20_12
      refine lv_aload_n hx hb dX8_buddle_32 rfl (lv_at hl 0 rfl) ?_
      refine lv_iconst (v := 1) hx hb dX8_buddle_33 (by decide) ?_
      refine zafter_i C hw (zrunV (rest := []) C hml hl.1 hw (zn12 hL) rfl rfl (c_X8_no l D cy ad m1 H.size hL 1) zv_X8_31 rfl rfl rfl ⟨Nat.le_of_ble_eq_true rfl, Nat.le_of_ble_eq_true rfl⟩ rfl (Nat.le_of_ble_eq_true rfl) dX8_buddle_34 ⟨Nat.zero_le _, Nat.zero_le _⟩) (fun r15 m14 H locs h13 hw => ?_)
      obtain ⟨er15, em14⟩ := h13
      exact zret_i C hr hlocks hw dX8_buddle_37 (by subst_vars; exact zpair ((if_neg c11_5).trans (if_pos c20_12)))
    · skip
      rw [er11] at c20_12
      obtain ⟨uk, ukl, uku⟩ := q_isIn_ok (x := k) (a := 0) (b := 2) (by decide) (by decide) (fun q => c20_12 q)
      refine lv_aload_n hx hb dX8_buddle_23 rfl (lv_at hl 0 rfl) ?_
      refine lv_iload_n hx hb dX8_buddle_24 rfl (lv_at hl 1 rfl) ?_
      refine lv_iload_n hx hb dX8_buddle_25 rfl (lv_at hl 2 rfl) ?_
      refine W.eq (congrArg (fun z : Int32 => F0 mi 26 ls [.int k, .int z, .ref (ad (12, 0, 0))]) (show b = nI b.toNatClampNeg from ub)) ?_
      refine W.eq (congrArg (fun z : Int32 => F0 mi 26 ls [.int z, .int (nI b.toNatClampNeg), .ref (ad (12, 0, 0))]) (show k = nI k.toNatClampNeg from uk)) ?_
      refine zafter_i C hw (zrunV (rest := []) C hml hl.1 hw (zn12 hL) rfl rfl (c_X8_buddleTold l D cy ad m1 H.size hL b.toNatClampNeg k.toNatClampNeg (by omega) (by omega)) zv_X8_136 rfl rfl rfl ⟨Nat.le_of_ble_eq_true rfl, Nat.le_of_ble_eq_true rfl⟩ rfl (Nat.le_of_ble_eq_true rfl) dX8_buddle_26 ⟨Nat.zero_le _, Nat.zero_le _⟩) (fun r18 m17 H locs h16 hw => ?_)
      obtain ⟨er18, h16⟩ := h16
      rw [h16] at hw
      clear h16 m17
      refine lv_goto (tgt := 37) hx hb dX8_buddle_29 (by decide) ?_
      exact zret_i C hr hlocks hw dX8_buddle_37 (by subst_vars; exact zpair ((if_neg c11_5).trans (if_neg c20_12)))

set_option maxHeartbeats 4000000 in
set_option maxRecDepth 100000 in
theorem c_X8_headTin (l : Launch) (D : va_G) (cy : Nat → ClassId) (ad : ZN → Nat) (m : ZM) (sz : Nat) {L : List ZN} (hL : zL L) (b : Nat) (gb : b < 3) (x : Int32) : Met l yX8_headTin (zws yX8_headTin cX8_headTin 3 (some .int)) ({ frames := 0, cells := 0, slots := 0, locals := 0 } : Room) (zPc D cy ad L m sz [.ref (ad (12, 0, 0)), .int (nI b), .int x]) (zQi (fun r m1 => r = q8_headTin m b x ∧ m1 = m) D cy ad L sz) 0 0 (zA ad L sz) := by
  refine zopen (Qc := fun sz => zQi (fun r m1 => r = q8_headTin m b x ∧ m1 = m) D cy ad L sz) RX8 (plainFor_of_name (by decide)) rfl (Nat.le_of_ble_eq_true rfl) ?_
  intro p e s mi below meth c ls C hr hlocks hml hl H locs hw
  obtain ⟨hx, hb, hts, hown, hK, hNw⟩ := id C
  have hl : lv_has ls 3 [(0, .ref (ad (12, 0, 0))), (1, .int (nI b)), (2, .int x)] := hl
  refine lv_aload_n hx hb dX8_headTin_0 rfl (lv_at hl 0 rfl) ?_
  refine zg_X8_10 C hw (zn12 hL) dX8_headTin_1 ?_
  refine zg_X8_129 C hw (zn13 hL (by decide)) dX8_headTin_4 ?_
  refine lv_iconst (v := 2) hx hb dX8_headTin_7 (by decide) ?_
  refine lv_iload_n hx hb dX8_headTin_8 rfl (lv_at hl 1 rfl) ?_
  refine lv_imul hx hb dX8_headTin_9 ?_
  refine lv_iconst (v := 1) hx hb dX8_headTin_10 (by decide) ?_
  refine lv_iadd hx hb dX8_headTin_11 ?_
  refine zaldN C hw (zq21 (w := 0) hL (by decide)) ((2 * b) + 1) (by omega) (zadd (zmul rfl rfl) rfl) (by decide) dX8_headTin_12 ?_
  refine lv_bipush (v := 100) hx hb dX8_headTin_13 (by decide) ?_
  refine lv_iload_n hx hb dX8_headTin_15 rfl (lv_at hl 2 rfl) ?_
  refine lv_iconst (v := 3) hx hb dX8_headTin_16 (by decide) ?_
  refine lv_idiv hx hb dX8_headTin_17 (by decide) ?_
  refine lv_isub hx hb dX8_headTin_18 ?_
  refine lv_imul hx hb dX8_headTin_19 ?_
  refine lv_bipush (v := 100) hx hb dX8_headTin_20 (by decide) ?_
  refine lv_idiv hx hb dX8_headTin_22 (by decide) ?_
  exact zret_i C hr hlocks hw dX8_headTin_23 ⟨(by first | rfl | (subst_vars; first | rfl)), (by first | rfl | (subst_vars; first | rfl))⟩

set_option maxHeartbeats 4000000 in
set_option maxRecDepth 100000 in
theorem c_X8_headRock (l : Launch) (D : va_G) (cy : Nat → ClassId) (ad : ZN → Nat) (m : ZM) (sz : Nat) {L : List ZN} (hL : zL L) (b : Nat) (gb : b < 3) (x : Int32) : Met l yX8_headRock (zws yX8_headRock cX8_headRock 3 (some .int)) ({ frames := 0, cells := 0, slots := 0, locals := 0 } : Room) (zPc D cy ad L m sz [.ref (ad (12, 0, 0)), .int (nI b), .int x]) (zQi (fun r m1 => r = q8_headRock m b x ∧ m1 = m) D cy ad L sz) 0 0 (zA ad L sz) := by
  refine zopen (Qc := fun sz => zQi (fun r m1 => r = q8_headRock m b x ∧ m1 = m) D cy ad L sz) RX8 (plainFor_of_name (by decide)) rfl (Nat.le_of_ble_eq_true rfl) ?_
  intro p e s mi below meth c ls C hr hlocks hml hl H locs hw
  obtain ⟨hx, hb, hts, hown, hK, hNw⟩ := id C
  have hl : lv_has ls 3 [(0, .ref (ad (12, 0, 0))), (1, .int (nI b)), (2, .int x)] := hl
  refine lv_aload_n hx hb dX8_headRock_0 rfl (lv_at hl 0 rfl) ?_
  refine zg_X8_10 C hw (zn12 hL) dX8_headRock_1 ?_
  refine zg_X8_129 C hw (zn13 hL (by decide)) dX8_headRock_4 ?_
  refine lv_iconst (v := 2) hx hb dX8_headRock_7 (by decide) ?_
  refine lv_iload_n hx hb dX8_headRock_8 rfl (lv_at hl 1 rfl) ?_
  refine lv_imul hx hb dX8_headRock_9 ?_
  refine zaldN C hw (zq21 (w := 0) hL (by decide)) (2 * b) (by omega) (zmul rfl rfl) (by decide) dX8_headRock_10 ?_
  refine lv_bipush (v := 100) hx hb dX8_headRock_11 (by decide) ?_
  refine lv_iload_n hx hb dX8_headRock_13 rfl (lv_at hl 2 rfl) ?_
  refine lv_isub hx hb dX8_headRock_14 ?_
  refine lv_iconst (v := 4) hx hb dX8_headRock_15 (by decide) ?_
  refine lv_idiv hx hb dX8_headRock_16 (by decide) ?_
  refine lv_imul hx hb dX8_headRock_17 ?_
  refine lv_bipush (v := 100) hx hb dX8_headRock_18 (by decide) ?_
  refine lv_idiv hx hb dX8_headRock_20 (by decide) ?_
  exact zret_i C hr hlocks hw dX8_headRock_21 ⟨(by first | rfl | (subst_vars; first | rfl)), (by first | rfl | (subst_vars; first | rfl))⟩
