/-! the reference's state -/
def q_pair (m : ZM) (n : ZN) (i : Nat) : Int32 := m n i + m n (i + 1)
def q_tinOf (r t x : Int32) : Int32 := if lg_cmp (r.toInt64 + t.toInt64) 0 = 0 then 0 else (t.toInt64 * x.toInt64 / (r.toInt64 + t.toInt64)).toInt32
def q_mv (m : ZM) (n : ZN) (i : Nat) (v : ZN) (j : Nat) (x : Int32) : ZM :=
  let t := q_tinOf (m n i) (m n (i + 1)) x
  let m1 := zs m n i (m n i - (x - t))
  let m2 := zs m1 n (i + 1) (m1 n (i + 1) - t)
  let m3 := zs m2 v j (m2 v j + (x - t))
  zs m3 v (j + 1) (m3 v (j + 1) + t)
def q_cps (m : ZM) (w v : Nat) : List (Nat × Nat) → ZM
  | [] => m
  | (a, len) :: q => q_cps (zcp m (2, a + 20 * v, len) (2, a + 20 * w, len) len) w v q
def q_become7 (m : ZM) (w v : Nat) : ZM :=
  let m1 := zs m (13, w, 0) 0 (m (13, v, 0) 0)
  let m2 := zs m1 (13, w, 0) 1 (m1 (13, v, 0) 1)
  let m3 := zs m2 (13, w, 0) 2 (m2 (13, v, 0) 2)
  let m4 := zs m3 (13, w, 0) 4 (m3 (13, v, 0) 4)
  let m5 := zs m4 (13, w, 0) 14 (m4 (13, v, 0) 14)
  let m6 := zs m5 (13, w, 0) 17 (m5 (13, v, 0) 17)
  q_cps m6 w v [(10, 24), (11, 4), (12, 16), (13, 16), (14, 16), (15, 4), (16, 4), (17, 4), (18, 4), (19, 24), (20, 90), (21, 6)]
def q_tinBud7 (m : ZM) (w : Nat) : Int32 := m (2, 21 + 20 * w, 6) 1 + m (2, 21 + 20 * w, 6) 3 + m (2, 21 + 20 * w, 6) 5
def q_inHop (m : ZM) (w n : Nat) : Int32 := bx_sum (fun k => q_pair m (2, 20 + 20 * w, 90) (3 * k)) n
def q_addLot7 (m : ZM) (w ln : Nat) (x y z : Int32) : ZM :=
  let m1 := zs m (2, 20 + 20 * w, 90) (3 * ln) x
  let m2 := zs m1 (2, 20 + 20 * w, 90) (3 * ln + 1) y
  let m3 := zs m2 (2, 20 + 20 * w, 90) (3 * ln + 2) z
  zs m3 (13, w, 0) 14 (m3 (13, w, 0) 14 + 1)
def q_shift (w : Nat) (m : ZM) : Nat → ZM
  | 0 => m
  | k + 1 => zs (q_shift w m k) (2, 20 + 20 * w, 90) k (q_shift w m k (2, 20 + 20 * w, 90) (k + 3))
def q_drop7 (m : ZM) (w ln : Nat) : ZM := q_shift w (zs m (13, w, 0) 14 (m (13, w, 0) 14 - 1)) (3 * (ln - 1))
theorem q_shift_k {w n : Nat} {m : ZM} {k : ZN} (h : k.1 ≠ 2) : q_shift w m n k = m k := by
  induction n with
  | zero => rfl
  | succ n ih => rw [q_shift, zs_k h, ih]
theorem q_shift_ne {w n : Nat} {m : ZM} {k : ZN} (h : k ≠ (2, 20 + 20 * w, 90)) : q_shift w m n k = m k := by
  induction n with
  | zero => rfl
  | succ n ih => rw [q_shift, zs_ne h, ih]
def q_row7 (m : ZM) (w b n : Nat) : Int32 := bx_sum (fun j => m (2, 12 + 20 * w, 16) (4 * b + j) * m (2, 13 + 20 * w, 16) (4 * b + j) / 4) n
def q_load7 (m : ZM) (w : Nat) (sc : Nat → Nat) : Nat → Int32
  | 0 => 20
  | k + 1 => q_load7 m w sc k + q_row7 m w k (sc k)
theorem q_mv_k {m : ZM} {n v k : ZN} {i j : Nat} {x : Int32} (h : k.1 ≠ n.1) (h2 : k.1 ≠ v.1) : q_mv m n i v j x k = m k := by
  unfold q_mv
  rw [zs_k h2, zs_k h2, zs_k h, zs_k h]
theorem q_mv_ne {m : ZM} {n v k : ZN} {i j : Nat} {x : Int32} (h : k ≠ n) (h2 : k ≠ v) : q_mv m n i v j x k = m k := by
  unfold q_mv
  rw [zs_ne h2, zs_ne h2, zs_ne h, zs_ne h]
theorem z2_ne {a b x y : Nat} (h : a ≠ b) : ((2, a, x) : ZN) ≠ (2, b, y) := fun e => h (by injection e with _ e2; injection e2)
/-- a box eats: n turns at most -/
def q_eat (w b : Nat) : Nat → ZM → Int32 → ZM
  | 0, m, _ => m
  | n + 1, m, a => if a ≤ 0 then m else if m (13, w, 0) 14 ≤ 0 then m else
    q_eat w b n (if ¬ q_pair (q_mv (zs m (2, 17 + 20 * w, 4) b (m (2, 20 + 20 * w, 90) 2)) (2, 20 + 20 * w, 90) 0 (2, 19 + 20 * w, 24) (6 * b) (q_min a (q_pair m (2, 20 + 20 * w, 90) 0))) (2, 20 + 20 * w, 90) 0 = 0 then q_mv (zs m (2, 17 + 20 * w, 4) b (m (2, 20 + 20 * w, 90) 2)) (2, 20 + 20 * w, 90) 0 (2, 19 + 20 * w, 24) (6 * b) (q_min a (q_pair m (2, 20 + 20 * w, 90) 0)) else q_drop7 (q_mv (zs m (2, 17 + 20 * w, 4) b (m (2, 20 + 20 * w, 90) 2)) (2, 20 + 20 * w, 90) 0 (2, 19 + 20 * w, 24) (6 * b) (q_min a (q_pair m (2, 20 + 20 * w, 90) 0))) w (m (13, w, 0) 14).toNatClampNeg) (a - q_min a (q_pair m (2, 20 + 20 * w, 90) 0))
theorem q_eat_go {w b n ln : Nat} {m m1 m2 m3 : ZM} {a x a1 : Int32} (hj : (m (13, w, 0) 14).toNatClampNeg = ln) (c1 : ¬ a ≤ 0) (c2 : ¬ m (13, w, 0) 14 ≤ 0) (ex : x = if m (2, 20 + 20 * w, 90) 0 + m (2, 20 + 20 * w, 90) 1 < a then m (2, 20 + 20 * w, 90) 0 + m (2, 20 + 20 * w, 90) 1 else a) (e1 : m1 = zs m (2, 17 + 20 * w, 4) b (m (2, 20 + 20 * w, 90) 2)) (e2 : m2 = q_mv m1 (2, 20 + 20 * w, 90) 0 (2, 19 + 20 * w, 24) (6 * b) x) (ea : a1 = a - x)
    (e3 : (¬ m2 (2, 20 + 20 * w, 90) 0 + m2 (2, 20 + 20 * w, 90) 1 = 0 ∧ m3 = m2) ∨ (¬ ¬ m2 (2, 20 + 20 * w, 90) 0 + m2 (2, 20 + 20 * w, 90) 1 = 0 ∧ m3 = q_drop7 m2 w ln)) : q_eat w b (n + 1) m a = q_eat w b n m3 a1 := by
  rw [q_eat, if_neg c1, if_neg c2, hj]
  subst ea e2 e1
  have ex : x = q_min a (q_pair m (2, 20 + 20 * w, 90) 0) := ex
  subst ex
  rcases e3 with ⟨z, rfl⟩ | ⟨z, rfl⟩
  · exact congrArg (fun u => q_eat w b n u _) (if_pos z)
  · exact congrArg (fun u => q_eat w b n u _) (if_neg z)
theorem q_eat_stop {w b n : Nat} {m : ZM} {a : Int32} (h : a ≤ 0) : q_eat w b n m a = m := by
  cases n with
  | zero => rfl
  | succ n => rw [q_eat, if_pos h]
theorem q_eat_stop2 {w b n : Nat} {m : ZM} {a : Int32} (h : m (13, w, 0) 14 ≤ 0) : q_eat w b n m a = m := by
  cases n with
  | zero => rfl
  | succ n =>
    rw [q_eat, if_pos h]
    split <;> rfl
theorem q_drop7_n {w n : Nat} {m : ZM} (h : m (13, w, 0) 14 = nI n) (l1 : 1 ≤ n) : q_drop7 m w n (13, w, 0) 14 = nI (n - 1) := by
  unfold q_drop7
  rw [q_shift_k (zk rfl), zs_eq rfl, h]
  exact pk_sub l1
theorem q_mv_pair {m : ZM} {n v : ZN} {i j : Nat} {x : Int32} (h : n ≠ v) : q_pair (q_mv m n i v j x) n i = q_pair m n i - x := by
  unfold q_pair q_mv
  rw [zs_ne h, zs_ne h, zs_ej (show i ≠ i + 1 by omega), zs_eq rfl, zs_eq rfl, zs_ej (show i + 1 ≠ i by omega)]
  generalize q_tinOf (m n i) (m n (i + 1)) x = t
  generalize m n i = a
  generalize m n (i + 1) = b
  grind
theorem q_eat_end {w b : Nat} {m m1 m2 : ZM} {a x a1 : Int32} (ex : x = if m (2, 20 + 20 * w, 90) 0 + m (2, 20 + 20 * w, 90) 1 < a then m (2, 20 + 20 * w, 90) 0 + m (2, 20 + 20 * w, 90) 1 else a) (e1 : m1 = zs m (2, 17 + 20 * w, 4) b (m (2, 20 + 20 * w, 90) 2)) (e2 : m2 = q_mv m1 (2, 20 + 20 * w, 90) 0 (2, 19 + 20 * w, 24) (6 * b) x) (ea : a1 = a - x) (h : ¬ m2 (2, 20 + 20 * w, 90) 0 + m2 (2, 20 + 20 * w, 90) 1 = 0) : a1 ≤ 0 := by
  have h1 : q_pair m2 (2, 20 + 20 * w, 90) 0 = q_pair m (2, 20 + 20 * w, 90) 0 - x := by
    rw [e2, q_mv_pair (z2_ne (by omega)), e1]
    unfold q_pair
    rw [zs_ne (z2_ne (by omega))]
  have h2 : ¬ q_pair m2 (2, 20 + 20 * w, 90) 0 = 0 := h
  by_cases c : m (2, 20 + 20 * w, 90) 0 + m (2, 20 + 20 * w, 90) 1 < a
  · rw [if_pos c] at ex
    exact absurd (by rw [h1, ex]; exact Int32.sub_self _) h2
  · rw [if_neg c] at ex
    rw [ea, ex, Int32.sub_self]
    exact Int32.le_refl _
def q_fs7 (m : ZM) (w b : Nat) (t : Int32) : Nat → ZM
  | 0 => zs m (2, 18 + 20 * w, 4) b 0
  | k + 1 => zs (q_fs7 m w b t k) (2, 18 + 20 * w, 4) b (q_fs7 m w b t k (2, 18 + 20 * w, 4) b + q_fs7 m w b t k (2, 12 + 20 * w, 16) (4 * b + k) * q_fs7 m w b t k (2, 13 + 20 * w, 16) (4 * b + k) * t * (100 - q_fs7 m w b t k (2, 14 + 20 * w, 16) (4 * b + k)) / 1000)
theorem q_fs7_k {m : ZM} {w b n : Nat} {t : Int32} {k : ZN} (h : k ≠ (2, 18 + 20 * w, 4)) : q_fs7 m w b t n k = m k := by
  induction n with
  | zero => rw [q_fs7, zs_ne h]
  | succ n ih => rw [q_fs7, zs_ne h, ih]
theorem q_2hd {n : Nat} (h : 1 ≤ n) (h2 : n ≤ 9) : ¬ 2 * nI n = 0 := by
  rw [show (2 : Int32) = nI 2 from rfl, pk_mul]
  exact nI_ne0 (by omega) (by omega)
def q_blow7 (m : ZM) (w b cn hd : Nat) (t : Int32) : ZM :=
  let m1 := q_fs7 m w b t cn
  let m2 := q_mv m1 (2, 19 + 20 * w, 24) (6 * b) (2, 19 + 20 * w, 24) (6 * b + 2) (q_min (q_pair m1 (2, 19 + 20 * w, 24) (2 * (3 * b + 0))) (m1 (2, 18 + 20 * w, 4) b / nI hd))
  q_mv m2 (2, 19 + 20 * w, 24) (6 * b + 2) (2, 19 + 20 * w, 24) (6 * b + 4) (q_min (q_pair m2 (2, 19 + 20 * w, 24) (2 * (3 * b + 1))) (m2 (2, 18 + 20 * w, 4) b / (2 * nI hd)))

set_option maxHeartbeats 4000000 in
set_option maxRecDepth 100000 in
theorem c_X7_copy (l : Launch) (D : va_G) (cy : Nat → ClassId) (ad : ZN → Nat) (m : ZM) (sz : Nat) {L : List ZN} {ia ib na : Nat} (ha : (2, ia, na) ∈ L) (hb1 : (2, ib, na) ∈ L) (la : na < 2 ^ 31) : Met l yX7_copy (zws yX7_copy cX7_copy 2 none) ({ frames := 1, cells := 0, slots := 0, locals := 60 } : Room) (zPc D cy ad L m sz [.ref (ad (2, ia, na)), .ref (ad (2, ib, na))]) (zQv (fun m1 => m1 = zcp m (2, ia, na) (2, ib, na) na) D cy ad L sz) 0 0 (zA ad L sz) := by
  refine zopen (Qc := fun sz => zQv (fun m1 => m1 = zcp m (2, ia, na) (2, ib, na) na) D cy ad L sz) RX7 (plainFor_of_name (by decide)) rfl (Nat.le_of_ble_eq_true rfl) ?_
  intro p e s mi below meth c ls C hr hlocks hml hl H locs hw
  obtain ⟨hx, hb, hts, hown, hK, hNw⟩ := id C
  have hl : lv_has ls 2 [(0, .ref (ad (2, ia, na))), (1, .ref (ad (2, ib, na)))] := hl
  refine lv_aload_n hx hb dX7_copy_0 rfl (lv_at hl 0 rfl) ?_
  refine lv_iconst (v := 0) hx hb dX7_copy_1 (by decide) ?_
  refine lv_aload_n hx hb dX7_copy_2 rfl (lv_at hl 1 rfl) ?_
  refine lv_iconst (v := 0) hx hb dX7_copy_3 (by decide) ?_
  refine lv_aload_n hx hb dX7_copy_4 rfl (lv_at hl 0 rfl) ?_
  refine zlen C hw ha dX7_copy_5 ?_
  refine zcopy C (hml.trans hl.1.symm) hw zL_X7_55 zX_nat zX_stat zX_ini ha hb1 rfl la (Nat.le_of_ble_eq_true rfl) (Nat.le_of_ble_eq_true rfl) dX7_copy_6 (fun H locs m1 em1 hw => ?_)
  exact zret_v C hr hlocks hw dX7_copy_9 (by first | rfl | (subst_vars; first | rfl))

set_option maxHeartbeats 4000000 in
set_option maxRecDepth 100000 in
theorem c_X7_become (l : Launch) (D : va_G) (cy : Nat → ClassId) (ad : ZN → Nat) (m : ZM) (sz : Nat) {L : List ZN} (hL : zL L) {w v : Nat} (gw : w < 2) (gv : v < 2) : Met l yX7_become (zws yX7_become cX7_become 2 none) ({ frames := 2, cells := 0, slots := 0, locals := 81 } : Room) (zPc D cy ad L m sz [.ref (ad (13, w, 0)), .ref (ad (13, v, 0))]) (zQv (fun m1 => m1 = q_become7 m w v) D cy ad L sz) 0 0 (zA ad L sz) := by
  refine zopen (Qc := fun sz => zQv (fun m1 => m1 = q_become7 m w v) D cy ad L sz) RX7 (plainFor_of_name (by decide)) rfl (Nat.le_of_ble_eq_true rfl) ?_
  intro p e s mi below meth c ls C hr hlocks hml hl H locs hw
  obtain ⟨hx, hb, hts, hown, hK, hNw⟩ := id C
  have hl : lv_has ls 2 [(0, .ref (ad (13, w, 0))), (1, .ref (ad (13, v, 0)))] := hl
  refine lv_aload_n hx hb dX7_become_0 rfl (lv_at hl 0 rfl) ?_
  refine lv_aload_n hx hb dX7_become_1 rfl (lv_at hl 1 rfl) ?_
  refine zg_X7_61 C hw (zn13 hL gv) dX7_become_2 ?_
  refine zp_X7_61 C hw (zn13 hL gw) dX7_become_5 (fun H locs m1 em1 hw => ?_)
  refine lv_aload_n hx hb dX7_become_8 rfl (lv_at hl 0 rfl) ?_
  refine lv_aload_n hx hb dX7_become_9 rfl (lv_at hl 1 rfl) ?_
  refine zg_X7_9 C hw (zn13 hL gv) dX7_become_10 ?_
  refine zp_X7_9 C hw (zn13 hL gw) dX7_become_13 (fun H locs m2 em2 hw => ?_)
  refine lv_aload_n hx hb dX7_become_16 rfl (lv_at hl 0 rfl) ?_
  refine lv_aload_n hx hb dX7_become_17 rfl (lv_at hl 1 rfl) ?_
  refine zg_X7_15 C hw (zn13 hL gv) dX7_become_18 ?_
  refine zp_X7_15 C hw (zn13 hL gw) dX7_become_21 (fun H locs m3 em3 hw => ?_)
  refine lv_aload_n hx hb dX7_become_24 rfl (lv_at hl 0 rfl) ?_
  refine lv_aload_n hx hb dX7_become_25 rfl (lv_at hl 1 rfl) ?_
  refine zg_X7_64 C hw (zn13 hL gv) dX7_become_26 ?_
  refine zp_X7_64 C hw (zn13 hL gw) dX7_become_29 (fun H locs m4 em4 hw => ?_)
  refine lv_aload_n hx hb dX7_become_32 rfl (lv_at hl 0 rfl) ?_
  refine lv_aload_n hx hb dX7_become_33 rfl (lv_at hl 1 rfl) ?_
  refine zg_X7_67 C hw (zn13 hL gv) dX7_become_34 ?_
  refine zp_X7_67 C hw (zn13 hL gw) dX7_become_37 (fun H locs m5 em5 hw => ?_)
  refine lv_aload_n hx hb dX7_become_40 rfl (lv_at hl 0 rfl) ?_
  refine lv_aload_n hx hb dX7_become_41 rfl (lv_at hl 1 rfl) ?_
  refine zg_X7_70 C hw (zn13 hL gv) dX7_become_42 ?_
  refine zp_X7_70 C hw (zn13 hL gw) dX7_become_45 (fun H locs m6 em6 hw => ?_)
  refine lv_aload_n hx hb dX7_become_48 rfl (lv_at hl 1 rfl) ?_
  refine zg_X7_18 C hw (zn13 hL gv) dX7_become_49 ?_
  refine lv_aload_n hx hb dX7_become_52 rfl (lv_at hl 0 rfl) ?_
  refine zg_X7_18 C hw (zn13 hL gw) dX7_become_53 ?_
  refine zafter_v C hw (zrunS (rest := []) C hml hl.1 hw (c_X7_copy l D cy ad m6 H.size (zq10 hL gv) (zq10 hL gw) (by decide)) zv_X7_73 rfl rfl rfl ⟨Nat.le_of_ble_eq_true rfl, Nat.le_of_ble_eq_true rfl⟩ rfl (Nat.le_of_ble_eq_true rfl) dX7_become_56 ⟨Nat.zero_le _, Nat.zero_le _⟩) (fun m8 H locs h7 hw => ?_)
  have em8 := h7
  refine lv_aload_n hx hb dX7_become_59 rfl (lv_at hl 1 rfl) ?_
  refine zg_X7_22 C hw (zn13 hL gv) dX7_become_60 ?_
  refine lv_aload_n hx hb dX7_become_63 rfl (lv_at hl 0 rfl) ?_
  refine zg_X7_22 C hw (zn13 hL gw) dX7_become_64 ?_
  refine zafter_v C hw (zrunS (rest := []) C hml hl.1 hw (c_X7_copy l D cy ad m8 H.size (zq11 hL gv) (zq11 hL gw) (by decide)) zv_X7_73 rfl rfl rfl ⟨Nat.le_of_ble_eq_true rfl, Nat.le_of_ble_eq_true rfl⟩ rfl (Nat.le_of_ble_eq_true rfl) dX7_become_67 ⟨Nat.zero_le _, Nat.zero_le _⟩) (fun m11 H locs h10 hw => ?_)
  have em11 := h10
  refine lv_aload_n hx hb dX7_become_70 rfl (lv_at hl 1 rfl) ?_
  refine zg_X7_25 C hw (zn13 hL gv) dX7_become_71 ?_
  refine lv_aload_n hx hb dX7_become_74 rfl (lv_at hl 0 rfl) ?_
  refine zg_X7_25 C hw (zn13 hL gw) dX7_become_75 ?_
  refine zafter_v C hw (zrunS (rest := []) C hml hl.1 hw (c_X7_copy l D cy ad m11 H.size (zq12 hL gv) (zq12 hL gw) (by decide)) zv_X7_73 rfl rfl rfl ⟨Nat.le_of_ble_eq_true rfl, Nat.le_of_ble_eq_true rfl⟩ rfl (Nat.le_of_ble_eq_true rfl) dX7_become_78 ⟨Nat.zero_le _, Nat.zero_le _⟩) (fun m14 H locs h13 hw => ?_)
  have em14 := h13
  refine lv_aload_n hx hb dX7_become_81 rfl (lv_at hl 1 rfl) ?_
  refine zg_X7_28 C hw (zn13 hL gv) dX7_become_82 ?_
  refine lv_aload_n hx hb dX7_become_85 rfl (lv_at hl 0 rfl) ?_
  refine zg_X7_28 C hw (zn13 hL gw) dX7_become_86 ?_
  refine zafter_v C hw (zrunS (rest := []) C hml hl.1 hw (c_X7_copy l D cy ad m14 H.size (zq13 hL gv) (zq13 hL gw) (by decide)) zv_X7_73 rfl rfl rfl ⟨Nat.le_of_ble_eq_true rfl, Nat.le_of_ble_eq_true rfl⟩ rfl (Nat.le_of_ble_eq_true rfl) dX7_become_89 ⟨Nat.zero_le _, Nat.zero_le _⟩) (fun m17 H locs h16 hw => ?_)
  have em17 := h16
  refine lv_aload_n hx hb dX7_become_92 rfl (lv_at hl 1 rfl) ?_
  refine zg_X7_31 C hw (zn13 hL gv) dX7_become_93 ?_
  refine lv_aload_n hx hb dX7_become_96 rfl (lv_at hl 0 rfl) ?_
  refine zg_X7_31 C hw (zn13 hL gw) dX7_become_97 ?_
  refine zafter_v C hw (zrunS (rest := []) C hml hl.1 hw (c_X7_copy l D cy ad m17 H.size (zq14 hL gv) (zq14 hL gw) (by decide)) zv_X7_73 rfl rfl rfl ⟨Nat.le_of_ble_eq_true rfl, Nat.le_of_ble_eq_true rfl⟩ rfl (Nat.le_of_ble_eq_true rfl) dX7_become_100 ⟨Nat.zero_le _, Nat.zero_le _⟩) (fun m20 H locs h19 hw => ?_)
  have em20 := h19
  refine lv_aload_n hx hb dX7_become_103 rfl (lv_at hl 1 rfl) ?_
  refine zg_X7_34 C hw (zn13 hL gv) dX7_become_104 ?_
  refine lv_aload_n hx hb dX7_become_107 rfl (lv_at hl 0 rfl) ?_
  refine zg_X7_34 C hw (zn13 hL gw) dX7_become_108 ?_
  refine zafter_v C hw (zrunS (rest := []) C hml hl.1 hw (c_X7_copy l D cy ad m20 H.size (zq15 hL gv) (zq15 hL gw) (by decide)) zv_X7_73 rfl rfl rfl ⟨Nat.le_of_ble_eq_true rfl, Nat.le_of_ble_eq_true rfl⟩ rfl (Nat.le_of_ble_eq_true rfl) dX7_become_111 ⟨Nat.zero_le _, Nat.zero_le _⟩) (fun m23 H locs h22 hw => ?_)
  have em23 := h22
  refine lv_aload_n hx hb dX7_become_114 rfl (lv_at hl 1 rfl) ?_
  refine zg_X7_37 C hw (zn13 hL gv) dX7_become_115 ?_
  refine lv_aload_n hx hb dX7_become_118 rfl (lv_at hl 0 rfl) ?_
  refine zg_X7_37 C hw (zn13 hL gw) dX7_become_119 ?_
  refine zafter_v C hw (zrunS (rest := []) C hml hl.1 hw (c_X7_copy l D cy ad m23 H.size (zq16 hL gv) (zq16 hL gw) (by decide)) zv_X7_73 rfl rfl rfl ⟨Nat.le_of_ble_eq_true rfl, Nat.le_of_ble_eq_true rfl⟩ rfl (Nat.le_of_ble_eq_true rfl) dX7_become_122 ⟨Nat.zero_le _, Nat.zero_le _⟩) (fun m26 H locs h25 hw => ?_)
  have em26 := h25
  refine lv_aload_n hx hb dX7_become_125 rfl (lv_at hl 1 rfl) ?_
  refine zg_X7_40 C hw (zn13 hL gv) dX7_become_126 ?_
  refine lv_aload_n hx hb dX7_become_129 rfl (lv_at hl 0 rfl) ?_
  refine zg_X7_40 C hw (zn13 hL gw) dX7_become_130 ?_
  refine zafter_v C hw (zrunS (rest := []) C hml hl.1 hw (c_X7_copy l D cy ad m26 H.size (zq17 hL gv) (zq17 hL gw) (by decide)) zv_X7_73 rfl rfl rfl ⟨Nat.le_of_ble_eq_true rfl, Nat.le_of_ble_eq_true rfl⟩ rfl (Nat.le_of_ble_eq_true rfl) dX7_become_133 ⟨Nat.zero_le _, Nat.zero_le _⟩) (fun m29 H locs h28 hw => ?_)
  have em29 := h28
  refine lv_aload_n hx hb dX7_become_136 rfl (lv_at hl 1 rfl) ?_
  refine zg_X7_43 C hw (zn13 hL gv) dX7_become_137 ?_
  refine lv_aload_n hx hb dX7_become_140 rfl (lv_at hl 0 rfl) ?_
  refine zg_X7_43 C hw (zn13 hL gw) dX7_become_141 ?_
  refine zafter_v C hw (zrunS (rest := []) C hml hl.1 hw (c_X7_copy l D cy ad m29 H.size (zq18 hL gv) (zq18 hL gw) (by decide)) zv_X7_73 rfl rfl rfl ⟨Nat.le_of_ble_eq_true rfl, Nat.le_of_ble_eq_true rfl⟩ rfl (Nat.le_of_ble_eq_true rfl) dX7_become_144 ⟨Nat.zero_le _, Nat.zero_le _⟩) (fun m32 H locs h31 hw => ?_)
  have em32 := h31
  refine lv_aload_n hx hb dX7_become_147 rfl (lv_at hl 1 rfl) ?_
  refine zg_X7_46 C hw (zn13 hL gv) dX7_become_148 ?_
  refine lv_aload_n hx hb dX7_become_151 rfl (lv_at hl 0 rfl) ?_
  refine zg_X7_46 C hw (zn13 hL gw) dX7_become_152 ?_
  refine zafter_v C hw (zrunS (rest := []) C hml hl.1 hw (c_X7_copy l D cy ad m32 H.size (zq19 hL gv) (zq19 hL gw) (by decide)) zv_X7_73 rfl rfl rfl ⟨Nat.le_of_ble_eq_true rfl, Nat.le_of_ble_eq_true rfl⟩ rfl (Nat.le_of_ble_eq_true rfl) dX7_become_155 ⟨Nat.zero_le _, Nat.zero_le _⟩) (fun m35 H locs h34 hw => ?_)
  have em35 := h34
  refine lv_aload_n hx hb dX7_become_158 rfl (lv_at hl 1 rfl) ?_
  refine zg_X7_49 C hw (zn13 hL gv) dX7_become_159 ?_
  refine lv_aload_n hx hb dX7_become_162 rfl (lv_at hl 0 rfl) ?_
  refine zg_X7_49 C hw (zn13 hL gw) dX7_become_163 ?_
  refine zafter_v C hw (zrunS (rest := []) C hml hl.1 hw (c_X7_copy l D cy ad m35 H.size (zq20 hL gv) (zq20 hL gw) (by decide)) zv_X7_73 rfl rfl rfl ⟨Nat.le_of_ble_eq_true rfl, Nat.le_of_ble_eq_true rfl⟩ rfl (Nat.le_of_ble_eq_true rfl) dX7_become_166 ⟨Nat.zero_le _, Nat.zero_le _⟩) (fun m38 H locs h37 hw => ?_)
  have em38 := h37
  refine lv_aload_n hx hb dX7_become_169 rfl (lv_at hl 1 rfl) ?_
  refine zg_X7_52 C hw (zn13 hL gv) dX7_become_170 ?_
  refine lv_aload_n hx hb dX7_become_173 rfl (lv_at hl 0 rfl) ?_
  refine zg_X7_52 C hw (zn13 hL gw) dX7_become_174 ?_
  refine zafter_v C hw (zrunS (rest := []) C hml hl.1 hw (c_X7_copy l D cy ad m38 H.size (zq21 hL gv) (zq21 hL gw) (by decide)) zv_X7_73 rfl rfl rfl ⟨Nat.le_of_ble_eq_true rfl, Nat.le_of_ble_eq_true rfl⟩ rfl (Nat.le_of_ble_eq_true rfl) dX7_become_177 ⟨Nat.zero_le _, Nat.zero_le _⟩) (fun m41 H locs h40 hw => ?_)
  have em41 := h40
  exact zret_v C hr hlocks hw dX7_become_180 (by first | rfl | (subst_vars; first | rfl))

set_option maxHeartbeats 4000000 in
set_option maxRecDepth 100000 in
theorem c_X7_tinOf (l : Launch) (D : va_G) (cy : Nat → ClassId) (ad : ZN → Nat) (m : ZM) (sz : Nat) {L : List ZN} {ia na : Nat} (ha : (2, ia, na) ∈ L) (la : na < 2 ^ 31) (i : Nat) (li : i + 1 < na) (x : Int32) : Met l yX7_tinOf (zws yX7_tinOf cX7_tinOf 5 (some .int)) ({ frames := 0, cells := 0, slots := 0, locals := 0 } : Room) (zPc D cy ad L m sz [.ref (ad (2, ia, na)), .int (nI i), .int x]) (zQi (fun r m1 => r = q_tinOf (m (2, ia, na) i) (m (2, ia, na) (i + 1)) x ∧ m1 = m) D cy ad L sz) 0 0 (zA ad L sz) := by
  refine zopen (Qc := fun sz => zQi (fun r m1 => r = q_tinOf (m (2, ia, na) i) (m (2, ia, na) (i + 1)) x ∧ m1 = m) D cy ad L sz) RX7 (plainFor_of_name (by decide)) rfl (Nat.le_of_ble_eq_true rfl) ?_
  intro p e s mi below meth c ls C hr hlocks hml hl H locs hw
  obtain ⟨hx, hb, hts, hown, hK, hNw⟩ := id C
  have hl : lv_has ls 5 [(0, .ref (ad (2, ia, na))), (1, .int (nI i)), (2, .int x)] := hl
  refine lv_aload_n hx hb dX7_tinOf_0 rfl (lv_at hl 0 rfl) ?_
  refine lv_iload_n hx hb dX7_tinOf_1 rfl (lv_at hl 1 rfl) ?_
  refine zaldN C hw ha i (by omega) rfl la dX7_tinOf_2 ?_
  refine lv_i2l hx hb dX7_tinOf_3 rfl ?_
  refine lv_aload_n hx hb dX7_tinOf_4 rfl (lv_at hl 0 rfl) ?_
  refine lv_iload_n hx hb dX7_tinOf_5 rfl (lv_at hl 1 rfl) ?_
  refine lv_iconst (v := 1) hx hb dX7_tinOf_6 (by decide) ?_
  refine lv_iadd hx hb dX7_tinOf_7 ?_
  refine zaldN C hw ha (i + 1) (by omega) (zadd rfl rfl) la dX7_tinOf_8 ?_
  refine lv_i2l hx hb dX7_tinOf_9 rfl ?_
  refine lv_ladd hx hb dX7_tinOf_10 ?_
  refine lv_topl (fun x1 ex1 => ?_)
  refine lv_lstore_n (lv' := [(3, .long x1), (0, .ref (ad (2, ia, na))), (1, .int (nI i)), (2, .int x)]) hx hb dX7_tinOf_11 rfl hl (by decide) rfl (fun ls hl => ?_)
  refine lv_lload_n hx hb dX7_tinOf_12 rfl (lv_at hl 0 rfl) ?_
  refine lv_lconst (v := 0) hx hb dX7_tinOf_13 (by decide) ?_
  refine W.lcmp hx hb dX7_tinOf_14 ?_
  refine lv_if_ne (tgt := 22) hx hb dX7_tinOf_15 (by decide) (fun c15_2 => ?_) (fun c15_2 => ?_)
  · skip
    refine lv_aload_n hx hb dX7_tinOf_22 rfl (lv_at hl 1 rfl) ?_
    refine lv_iload_n hx hb dX7_tinOf_23 rfl (lv_at hl 2 rfl) ?_
    refine lv_iconst (v := 1) hx hb dX7_tinOf_24 (by decide) ?_
    refine lv_iadd hx hb dX7_tinOf_25 ?_
    refine zaldN C hw ha (i + 1) (by omega) (zadd rfl rfl) la dX7_tinOf_26 ?_
    refine lv_i2l hx hb dX7_tinOf_27 rfl ?_
    refine lv_iload_n hx hb dX7_tinOf_28 rfl (lv_at hl 3 rfl) ?_
    refine lv_i2l hx hb dX7_tinOf_29 rfl ?_
    refine lv_lmul hx hb dX7_tinOf_30 ?_
    refine lv_lload_n hx hb dX7_tinOf_31 rfl (lv_at hl 0 rfl) ?_
    refine lv_ldiv hx hb dX7_tinOf_32 (fun q => c15_2 (by rw [q]; rfl)) ?_
    refine lv_l2i hx hb dX7_tinOf_33 rfl ?_
    exact zret_i C hr hlocks hw dX7_tinOf_34 ⟨(by first | rfl | exact (if_neg c15_2).symm | (subst_vars; first | rfl | exact (if_neg c15_2).symm)), (by first | rfl | exact (if_neg c15_2).symm | (subst_vars; first | rfl | exact (if_neg c15_2).symm))⟩
  · skip
    refine lv_iconst (v := 0) hx hb dX7_tinOf_18 (by decide) ?_
    refine lv_goto (tgt := 34) hx hb dX7_tinOf_19 (by decide) ?_
    exact zret_i C hr hlocks hw dX7_tinOf_34 ⟨(by first | rfl | exact (if_pos c15_2).symm | (subst_vars; first | rfl | exact (if_pos c15_2).symm)), (by first | rfl | exact (if_pos c15_2).symm | (subst_vars; first | rfl | exact (if_pos c15_2).symm))⟩

set_option maxHeartbeats 4000000 in
set_option maxRecDepth 100000 in
theorem c_X7_move (l : Launch) (D : va_G) (cy : Nat → ClassId) (ad : ZN → Nat) (m : ZM) (sz : Nat) {L : List ZN} {ia na ib nb : Nat} (ha : (2, ia, na) ∈ L) (la : na < 2 ^ 31) (hb1 : (2, ib, nb) ∈ L) (lb : nb < 2 ^ 31) (i j : Nat) (li : i + 1 < na) (lj : j + 1 < nb) (x : Int32) : Met l yX7_move (zws yX7_move cX7_move 6 none) ({ frames := 1, cells := 0, slots := 0, locals := 24 } : Room) (zPc D cy ad L m sz [.ref (ad (2, ia, na)), .int (nI i), .ref (ad (2, ib, nb)), .int (nI j), .int x]) (zQv (fun m1 => m1 = q_mv m (2, ia, na) i (2, ib, nb) j x) D cy ad L sz) 0 0 (zA ad L sz) := by
  refine zopen (Qc := fun sz => zQv (fun m1 => m1 = q_mv m (2, ia, na) i (2, ib, nb) j x) D cy ad L sz) RX7 (plainFor_of_name (by decide)) rfl (Nat.le_of_ble_eq_true rfl) ?_
  intro p e s mi below meth c ls C hr hlocks hml hl H locs hw
  obtain ⟨hx, hb, hts, hown, hK, hNw⟩ := id C
  have hl : lv_has ls 6 [(0, .ref (ad (2, ia, na))), (1, .int (nI i)), (2, .ref (ad (2, ib, nb))), (3, .int (nI j)), (4, .int x)] := hl
  refine lv_aload_n hx hb dX7_move_0 rfl (lv_at hl 0 rfl) ?_
  refine lv_iload_n hx hb dX7_move_1 rfl (lv_at hl 1 rfl) ?_
  refine lv_iload hx hb dX7_move_2 (lv_at hl 4 rfl) ?_
  refine zafter_i C hw (zrunS (rest := []) C hml hl.1 hw (c_X7_tinOf l D cy ad m H.size ha la i li x) zv_X7_77 rfl rfl rfl ⟨Nat.le_of_ble_eq_true rfl, Nat.le_of_ble_eq_true rfl⟩ rfl (Nat.le_of_ble_eq_true rfl) dX7_move_4 ⟨Nat.zero_le _, Nat.zero_le _⟩) (fun r3 m2 H locs h1 hw => ?_)
  obtain ⟨er3, h1⟩ := h1
  rw [h1] at hw
  clear h1 m2
  refine lv_istore (lv' := [(5, .int r3), (0, .ref (ad (2, ia, na))), (1, .int (nI i)), (2, .ref (ad (2, ib, nb))), (3, .int (nI j)), (4, .int x)]) hx hb dX7_move_7 hl (by decide) rfl (fun ls hl => ?_)
  refine lv_aload_n hx hb dX7_move_9 rfl (lv_at hl 1 rfl) ?_
  refine lv_iload_n hx hb dX7_move_10 rfl (lv_at hl 2 rfl) ?_
  refine lv_dup2_11 hx hb dX7_move_11 rfl rfl ?_
  refine zaldN C hw ha i (by omega) rfl la dX7_move_12 ?_
  refine lv_iload hx hb dX7_move_13 (lv_at hl 5 rfl) ?_
  refine lv_iload hx hb dX7_move_15 (lv_at hl 0 rfl) ?_
  refine lv_isub hx hb dX7_move_17 ?_
  refine lv_isub hx hb dX7_move_18 ?_
  refine zastN C hw ha i (by omega) rfl la dX7_move_19 (fun H locs m4 em4 hw => ?_)
  refine lv_aload_n hx hb dX7_move_20 rfl (lv_at hl 1 rfl) ?_
  refine lv_iload_n hx hb dX7_move_21 rfl (lv_at hl 2 rfl) ?_
  refine lv_iconst (v := 1) hx hb dX7_move_22 (by decide) ?_
  refine lv_iadd hx hb dX7_move_23 ?_
  refine lv_dup2_11 hx hb dX7_move_24 rfl rfl ?_
  refine zaldN C hw ha (i + 1) (by omega) (zadd rfl rfl) la dX7_move_25 ?_
  refine lv_iload hx hb dX7_move_26 (lv_at hl 0 rfl) ?_
  refine lv_isub hx hb dX7_move_28 ?_
  refine zastN C hw ha (i + 1) (by omega) (zadd rfl rfl) la dX7_move_29 (fun H locs m5 em5 hw => ?_)
  refine lv_aload_n hx hb dX7_move_30 rfl (lv_at hl 3 rfl) ?_
  refine lv_iload_n hx hb dX7_move_31 rfl (lv_at hl 4 rfl) ?_
  refine lv_dup2_11 hx hb dX7_move_32 rfl rfl ?_
  refine zaldN C hw hb1 j (by omega) rfl lb dX7_move_33 ?_
  refine lv_iload hx hb dX7_move_34 (lv_at hl 5 rfl) ?_
  refine lv_iload hx hb dX7_move_36 (lv_at hl 0 rfl) ?_
  refine lv_isub hx hb dX7_move_38 ?_
  refine lv_iadd hx hb dX7_move_39 ?_
  refine zastN C hw hb1 j (by omega) rfl lb dX7_move_40 (fun H locs m6 em6 hw => ?_)
  refine lv_aload_n hx hb dX7_move_41 rfl (lv_at hl 3 rfl) ?_
  refine lv_iload_n hx hb dX7_move_42 rfl (lv_at hl 4 rfl) ?_
  refine lv_iconst (v := 1) hx hb dX7_move_43 (by decide) ?_
  refine lv_iadd hx hb dX7_move_44 ?_
  refine lv_dup2_11 hx hb dX7_move_45 rfl rfl ?_
  refine zaldN C hw hb1 (j + 1) (by omega) (zadd rfl rfl) lb dX7_move_46 ?_
  refine lv_iload hx hb dX7_move_47 (lv_at hl 0 rfl) ?_
  refine lv_iadd hx hb dX7_move_49 ?_
  refine zastN C hw hb1 (j + 1) (by omega) (zadd rfl rfl) lb dX7_move_50 (fun H locs m7 em7 hw => ?_)
  exact zret_v C hr hlocks hw dX7_move_51 (by first | rfl | (subst_vars; first | rfl))

set_option maxHeartbeats 4000000 in
set_option maxRecDepth 100000 in
theorem c_X7_oreOf (l : Launch) (D : va_G) (cy : Nat → ClassId) (ad : ZN → Nat) (m : ZM) (sz : Nat) {L : List ZN} (hL : zL L) {w : Nat} (gw : w < 2) (b z : Nat) (gb : b < 4) (gz : z < 3) : Met l yX7_oreOf (zws yX7_oreOf cX7_oreOf 3 (some .int)) ({ frames := 0, cells := 0, slots := 0, locals := 0 } : Room) (zPc D cy ad L m sz [.ref (ad (13, w, 0)), .int (nI b), .int (nI z)]) (zQi (fun r m1 => r = q_pair m (2, 19 + 20 * w, 24) (2 * (3 * b + z)) ∧ m1 = m) D cy ad L sz) 0 0 (zA ad L sz) := by
  refine zopen (Qc := fun sz => zQi (fun r m1 => r = q_pair m (2, 19 + 20 * w, 24) (2 * (3 * b + z)) ∧ m1 = m) D cy ad L sz) RX7 (plainFor_of_name (by decide)) rfl (Nat.le_of_ble_eq_true rfl) ?_
  intro p e s mi below meth c ls C hr hlocks hml hl H locs hw
  obtain ⟨hx, hb, hts, hown, hK, hNw⟩ := id C
  have hl : lv_has ls 3 [(0, .ref (ad (13, w, 0))), (1, .int (nI b)), (2, .int (nI z))] := hl
  refine lv_aload_n hx hb dX7_oreOf_0 rfl (lv_at hl 0 rfl) ?_
  refine zg_X7_46 C hw (zn13 hL gw) dX7_oreOf_1 ?_
  refine lv_iconst (v := 2) hx hb dX7_oreOf_4 (by decide) ?_
  refine lv_iconst (v := 3) hx hb dX7_oreOf_5 (by decide) ?_
  refine lv_iload_n hx hb dX7_oreOf_6 rfl (lv_at hl 1 rfl) ?_
  refine lv_imul hx hb dX7_oreOf_7 ?_
  refine lv_iload_n hx hb dX7_oreOf_8 rfl (lv_at hl 2 rfl) ?_
  refine lv_iadd hx hb dX7_oreOf_9 ?_
  refine lv_imul hx hb dX7_oreOf_10 ?_
  refine zaldN C hw (zq19 hL gw) (2 * ((3 * b) + z)) (by omega) (zmul rfl (zadd (zmul rfl rfl) rfl)) (by decide) dX7_oreOf_11 ?_
  refine lv_aload_n hx hb dX7_oreOf_12 rfl (lv_at hl 0 rfl) ?_
  refine zg_X7_46 C hw (zn13 hL gw) dX7_oreOf_13 ?_
  refine lv_iconst (v := 2) hx hb dX7_oreOf_16 (by decide) ?_
  refine lv_iconst (v := 3) hx hb dX7_oreOf_17 (by decide) ?_
  refine lv_iload_n hx hb dX7_oreOf_18 rfl (lv_at hl 1 rfl) ?_
  refine lv_imul hx hb dX7_oreOf_19 ?_
  refine lv_iload_n hx hb dX7_oreOf_20 rfl (lv_at hl 2 rfl) ?_
  refine lv_iadd hx hb dX7_oreOf_21 ?_
  refine lv_imul hx hb dX7_oreOf_22 ?_
  refine lv_iconst (v := 1) hx hb dX7_oreOf_23 (by decide) ?_
  refine lv_iadd hx hb dX7_oreOf_24 ?_
  refine zaldN C hw (zq19 hL gw) ((2 * ((3 * b) + z)) + 1) (by omega) (zadd (zmul rfl (zadd (zmul rfl rfl) rfl)) rfl) (by decide) dX7_oreOf_25 ?_
  refine lv_iadd hx hb dX7_oreOf_26 ?_
  exact zret_i C hr hlocks hw dX7_oreOf_27 ⟨(by first | rfl | (subst_vars; first | rfl)), (by first | rfl | (subst_vars; first | rfl))⟩

set_option maxHeartbeats 4000000 in
set_option maxRecDepth 100000 in
theorem c_X7_inBuddle (l : Launch) (D : va_G) (cy : Nat → ClassId) (ad : ZN → Nat) (m : ZM) (sz : Nat) {L : List ZN} (hL : zL L) {w : Nat} (gw : w < 2) (b : Nat) (gb : b < 3) : Met l yX7_inBuddle (zws yX7_inBuddle cX7_inBuddle 2 (some .int)) ({ frames := 0, cells := 0, slots := 0, locals := 0 } : Room) (zPc D cy ad L m sz [.ref (ad (13, w, 0)), .int (nI b)]) (zQi (fun r m1 => r = q_pair m (2, 21 + 20 * w, 6) (2 * b) ∧ m1 = m) D cy ad L sz) 0 0 (zA ad L sz) := by
  refine zopen (Qc := fun sz => zQi (fun r m1 => r = q_pair m (2, 21 + 20 * w, 6) (2 * b) ∧ m1 = m) D cy ad L sz) RX7 (plainFor_of_name (by decide)) rfl (Nat.le_of_ble_eq_true rfl) ?_
  intro p e s mi below meth c ls C hr hlocks hml hl H locs hw
  obtain ⟨hx, hb, hts, hown, hK, hNw⟩ := id C
  have hl : lv_has ls 2 [(0, .ref (ad (13, w, 0))), (1, .int (nI b))] := hl
  refine lv_aload_n hx hb dX7_inBuddle_0 rfl (lv_at hl 0 rfl) ?_
  refine zg_X7_52 C hw (zn13 hL gw) dX7_inBuddle_1 ?_
  refine lv_iconst (v := 2) hx hb dX7_inBuddle_4 (by decide) ?_
  refine lv_iload_n hx hb dX7_inBuddle_5 rfl (lv_at hl 1 rfl) ?_
  refine lv_imul hx hb dX7_inBuddle_6 ?_
  refine zaldN C hw (zq21 hL gw) (2 * b) (by omega) (zmul rfl rfl) (by decide) dX7_inBuddle_7 ?_
  refine lv_aload_n hx hb dX7_inBuddle_8 rfl (lv_at hl 0 rfl) ?_
  refine zg_X7_52 C hw (zn13 hL gw) dX7_inBuddle_9 ?_
  refine lv_iconst (v := 2) hx hb dX7_inBuddle_12 (by decide) ?_
  refine lv_iload_n hx hb dX7_inBuddle_13 rfl (lv_at hl 1 rfl) ?_
  refine lv_imul hx hb dX7_inBuddle_14 ?_
  refine lv_iconst (v := 1) hx hb dX7_inBuddle_15 (by decide) ?_
  refine lv_iadd hx hb dX7_inBuddle_16 ?_
  refine zaldN C hw (zq21 hL gw) ((2 * b) + 1) (by omega) (zadd (zmul rfl rfl) rfl) (by decide) dX7_inBuddle_17 ?_
  refine lv_iadd hx hb dX7_inBuddle_18 ?_
  exact zret_i C hr hlocks hw dX7_inBuddle_19 ⟨(by first | rfl | (subst_vars; first | rfl)), (by first | rfl | (subst_vars; first | rfl))⟩

set_option maxHeartbeats 4000000 in
set_option maxRecDepth 100000 in
theorem c_X7_tinInBuddles (l : Launch) (D : va_G) (cy : Nat → ClassId) (ad : ZN → Nat) (m : ZM) (sz : Nat) {L : List ZN} (hL : zL L) {w : Nat} (gw : w < 2) : Met l yX7_tinInBuddles (zws yX7_tinInBuddles cX7_tinInBuddles 1 (some .int)) ({ frames := 0, cells := 0, slots := 0, locals := 0 } : Room) (zPc D cy ad L m sz [.ref (ad (13, w, 0))]) (zQi (fun r m1 => r = q_tinBud7 m w ∧ m1 = m) D cy ad L sz) 0 0 (zA ad L sz) := by
  refine zopen (Qc := fun sz => zQi (fun r m1 => r = q_tinBud7 m w ∧ m1 = m) D cy ad L sz) RX7 (plainFor_of_name (by decide)) rfl (Nat.le_of_ble_eq_true rfl) ?_
  intro p e s mi below meth c ls C hr hlocks hml hl H locs hw
  obtain ⟨hx, hb, hts, hown, hK, hNw⟩ := id C
  have hl : lv_has ls 1 [(0, .ref (ad (13, w, 0)))] := hl
  refine lv_aload_n hx hb dX7_tinInBuddles_0 rfl (lv_at hl 0 rfl) ?_
  refine zg_X7_52 C hw (zn13 hL gw) dX7_tinInBuddles_1 ?_
  refine lv_iconst (v := 1) hx hb dX7_tinInBuddles_4 (by decide) ?_
  refine zaldN C hw (zq21 hL gw) 1 (by omega) rfl (by decide) dX7_tinInBuddles_5 ?_
  refine lv_aload_n hx hb dX7_tinInBuddles_6 rfl (lv_at hl 0 rfl) ?_
  refine zg_X7_52 C hw (zn13 hL gw) dX7_tinInBuddles_7 ?_
  refine lv_iconst (v := 3) hx hb dX7_tinInBuddles_10 (by decide) ?_
  refine zaldN C hw (zq21 hL gw) 3 (by omega) rfl (by decide) dX7_tinInBuddles_11 ?_
  refine lv_iadd hx hb dX7_tinInBuddles_12 ?_
  refine lv_aload_n hx hb dX7_tinInBuddles_13 rfl (lv_at hl 0 rfl) ?_
  refine zg_X7_52 C hw (zn13 hL gw) dX7_tinInBuddles_14 ?_
  refine lv_iconst (v := 5) hx hb dX7_tinInBuddles_17 (by decide) ?_
  refine zaldN C hw (zq21 hL gw) 5 (by omega) rfl (by decide) dX7_tinInBuddles_18 ?_
  refine lv_iadd hx hb dX7_tinInBuddles_19 ?_
  exact zret_i C hr hlocks hw dX7_tinInBuddles_20 ⟨(by first | rfl | (subst_vars; first | rfl)), (by first | rfl | (subst_vars; first | rfl))⟩

set_option maxHeartbeats 4000000 in
set_option maxRecDepth 100000 in
theorem c_X7_inHopper (l : Launch) (D : va_G) (cy : Nat → ClassId) (ad : ZN → Nat) (m : ZM) (sz : Nat) {L : List ZN} (hL : zL L) {w : Nat} (gw : w < 2) {ln : Nat} (hln : m (13, w, 0) 14 = nI ln) (lln : ln ≤ 30) : Met l yX7_inHopper (zws yX7_inHopper cX7_inHopper 3 (some .int)) ({ frames := 0, cells := 0, slots := 0, locals := 0 } : Room) (zPc D cy ad L m sz [.ref (ad (13, w, 0))]) (zQi (fun r m1 => r = q_inHop m w ln ∧ m1 = m) D cy ad L sz) 0 0 (zA ad L sz) := by
  refine zopen (Qc := fun sz => zQi (fun r m1 => r = q_inHop m w ln ∧ m1 = m) D cy ad L sz) RX7 (plainFor_of_name (by decide)) rfl (Nat.le_of_ble_eq_true rfl) ?_
  intro p e s mi below meth c ls C hr hlocks hml hl H locs hw
  obtain ⟨hx, hb, hts, hown, hK, hNw⟩ := id C
  have hl : lv_has ls 3 [(0, .ref (ad (13, w, 0)))] := hl
  refine lv_iconst (v := 0) hx hb dX7_inHopper_0 (by decide) ?_
  refine lv_istore_n (lv' := [(1, .int 0), (0, .ref (ad (13, w, 0)))]) hx hb dX7_inHopper_1 rfl hl (by decide) rfl (fun ls hl => ?_)
  refine lv_iconst (v := 0) hx hb dX7_inHopper_2 (by decide) ?_
  refine lv_istore_n (lv' := [(2, .int 0), (1, .int 0), (0, .ref (ad (13, w, 0)))]) hx hb dX7_inHopper_3 rfl hl (by decide) rfl (fun ls hl => ?_)
  have loop4 : ∀ (z : Nat) (k : Nat) (x : Int32) (H : Heap) (locs : List Loc) (ls : Array Slot), ln - k = z → (k ≤ ln) → (x = q_inHop m w k) → zH D cy ad L s.heap H locs m → lv_has ls 3 [(0, .ref (ad (13, w, 0))), (1, .int x), (2, .int (nI k))] → W p l e ({ frames := 0, cells := 0, slots := 0, locals := 0 } : Room) s mi [.ref (ad (13, w, 0))].toArray below meth c H locs 0 0 (MQ below (zQi (fun r m1 => r = q_inHop m w ln ∧ m1 = m) D cy ad L s.heap.size) [.ref (ad (13, w, 0))].toArray s 0 0 (zA ad L s.heap.size)) (F0 mi 4 ls []) := by
    intro z
    induction z using Nat.strongRecOn with
    | _ z ih4 =>
    intro k x H locs ls hz4 i4_1 i4_2 hw hl
    refine lv_iload_n hx hb dX7_inHopper_4 rfl (lv_at hl 2 rfl) ?_
    refine lv_aload_n hx hb dX7_inHopper_5 rfl (lv_at hl 0 rfl) ?_
    refine zg_X7_67 C hw (zn13 hL gw) dX7_inHopper_6 ?_
    refine ztop hln ?_
    refine lv_icmp_ge (tgt := 40) hx hb dX7_inHopper_9 (by decide) (fun c9_1 => ?_) (fun c9_1 => ?_)
    · skip
      have n2 := zle c9_1 (a := ln) (b := k) rfl rfl (by omega) (by omega)
      refine lv_iload_n hx hb dX7_inHopper_40 rfl (lv_at hl 1 rfl) ?_
      exact zret_i C hr hlocks hw dX7_inHopper_41 ⟨by rw [i4_2, show k = ln by omega], rfl⟩
    · skip
      have n3 := znle c9_1 (a := ln) (b := k) rfl rfl (by omega) (by omega)
      refine lv_iload_n hx hb dX7_inHopper_12 rfl (lv_at hl 1 rfl) ?_
      refine lv_aload_n hx hb dX7_inHopper_13 rfl (lv_at hl 0 rfl) ?_
      refine zg_X7_49 C hw (zn13 hL gw) dX7_inHopper_14 ?_
      refine lv_iconst (v := 3) hx hb dX7_inHopper_17 (by decide) ?_
      refine lv_iload_n hx hb dX7_inHopper_18 rfl (lv_at hl 2 rfl) ?_
      refine lv_imul hx hb dX7_inHopper_19 ?_
      refine zaldN C hw (zq20 hL gw) (3 * k) (by omega) (zmul rfl rfl) (by decide) dX7_inHopper_20 ?_
      refine lv_aload_n hx hb dX7_inHopper_21 rfl (lv_at hl 0 rfl) ?_
      refine zg_X7_49 C hw (zn13 hL gw) dX7_inHopper_22 ?_
      refine lv_iconst (v := 3) hx hb dX7_inHopper_25 (by decide) ?_
      refine lv_iload_n hx hb dX7_inHopper_26 rfl (lv_at hl 2 rfl) ?_
      refine lv_imul hx hb dX7_inHopper_27 ?_
      refine lv_iconst (v := 1) hx hb dX7_inHopper_28 (by decide) ?_
      refine lv_iadd hx hb dX7_inHopper_29 ?_
      refine zaldN C hw (zq20 hL gw) ((3 * k) + 1) (by omega) (zadd (zmul rfl rfl) rfl) (by decide) dX7_inHopper_30 ?_
      refine lv_iadd hx hb dX7_inHopper_31 ?_
      refine lv_iadd hx hb dX7_inHopper_32 ?_
      refine lv_topi (fun x4 ex4 => ?_)
      refine lv_istore_n (lv' := [(1, .int x4), (0, .ref (ad (13, w, 0))), (2, .int (nI k))]) hx hb dX7_inHopper_33 rfl hl (by decide) rfl (fun ls hl => ?_)
      refine lv_iinc (v := (nI (k + 1))) (lv' := [(2, .int (nI (k + 1))), (1, .int x4), (0, .ref (ad (13, w, 0)))]) hx hb dX7_inHopper_34 hl (k := 2) rfl (nI_1 k) (by decide) rfl (fun ls hl => ?_)
      refine lv_goto (tgt := 4) hx hb dX7_inHopper_37 (by decide) ?_
      exact ih4 _ (by omega) (k + 1) x4 _ _ _ rfl (by omega) (by rw [ex4, i4_2]; rfl) hw (lv_sub hl [2, 1, 0] rfl)
  exact loop4 _ 0 0 _ _ _ rfl (Nat.zero_le _) rfl hw (lv_sub hl [2, 1, 0] rfl)

set_option maxHeartbeats 4000000 in
set_option maxRecDepth 100000 in
theorem c_X7_addLot (l : Launch) (D : va_G) (cy : Nat → ClassId) (ad : ZN → Nat) (m : ZM) (sz : Nat) {L : List ZN} (hL : zL L) {w : Nat} (gw : w < 2) {ln : Nat} (hln : m (13, w, 0) 14 = nI ln) (lln : ln < 30) (x y z : Int32) : Met l yX7_addLot (zws yX7_addLot cX7_addLot 4 none) ({ frames := 0, cells := 0, slots := 0, locals := 0 } : Room) (zPc D cy ad L m sz [.ref (ad (13, w, 0)), .int x, .int y, .int z]) (zQv (fun m1 => m1 = q_addLot7 m w ln x y z) D cy ad L sz) 0 0 (zA ad L sz) := by
  refine zopen (Qc := fun sz => zQv (fun m1 => m1 = q_addLot7 m w ln x y z) D cy ad L sz) RX7 (plainFor_of_name (by decide)) rfl (Nat.le_of_ble_eq_true rfl) ?_
  intro p e s mi below meth c ls C hr hlocks hml hl H locs hw
  obtain ⟨hx, hb, hts, hown, hK, hNw⟩ := id C
  have hl : lv_has ls 4 [(0, .ref (ad (13, w, 0))), (1, .int x), (2, .int y), (3, .int z)] := hl
  refine lv_aload_n hx hb dX7_addLot_0 rfl (lv_at hl 0 rfl) ?_
  refine zg_X7_49 C hw (zn13 hL gw) dX7_addLot_1 ?_
  refine lv_iconst (v := 3) hx hb dX7_addLot_4 (by decide) ?_
  refine lv_aload_n hx hb dX7_addLot_5 rfl (lv_at hl 0 rfl) ?_
  refine zg_X7_67 C hw (zn13 hL gw) dX7_addLot_6 ?_
  refine ztop hln ?_
  refine lv_imul hx hb dX7_addLot_9 ?_
  refine lv_iload_n hx hb dX7_addLot_10 rfl (lv_at hl 1 rfl) ?_
  refine zastN C hw (zq20 hL gw) (3 * ln) (by omega) (zmul rfl rfl) (by decide) dX7_addLot_11 (fun H locs m1 em1 hw => ?_)
  have hlm1 : m1 (13, w, 0) 14 = nI ln := by rw [em1, zs_k (zk rfl)]; exact hln
  refine lv_aload_n hx hb dX7_addLot_12 rfl (lv_at hl 0 rfl) ?_
  refine zg_X7_49 C hw (zn13 hL gw) dX7_addLot_13 ?_
  refine lv_iconst (v := 3) hx hb dX7_addLot_16 (by decide) ?_
  refine lv_aload_n hx hb dX7_addLot_17 rfl (lv_at hl 0 rfl) ?_
  refine zg_X7_67 C hw (zn13 hL gw) dX7_addLot_18 ?_
  refine ztop hlm1 ?_
  refine lv_imul hx hb dX7_addLot_21 ?_
  refine lv_iconst (v := 1) hx hb dX7_addLot_22 (by decide) ?_
  refine lv_iadd hx hb dX7_addLot_23 ?_
  refine lv_iload_n hx hb dX7_addLot_24 rfl (lv_at hl 2 rfl) ?_
  refine zastN C hw (zq20 hL gw) ((3 * ln) + 1) (by omega) (zadd (zmul rfl rfl) rfl) (by decide) dX7_addLot_25 (fun H locs m2 em2 hw => ?_)
  have hlm2 : m2 (13, w, 0) 14 = nI ln := by rw [em2, zs_k (zk rfl)]; exact hlm1
  refine lv_aload_n hx hb dX7_addLot_26 rfl (lv_at hl 0 rfl) ?_
  refine zg_X7_49 C hw (zn13 hL gw) dX7_addLot_27 ?_
  refine lv_iconst (v := 3) hx hb dX7_addLot_30 (by decide) ?_
  refine lv_aload_n hx hb dX7_addLot_31 rfl (lv_at hl 0 rfl) ?_
  refine zg_X7_67 C hw (zn13 hL gw) dX7_addLot_32 ?_
  refine ztop hlm2 ?_
  refine lv_imul hx hb dX7_addLot_35 ?_
  refine lv_iconst (v := 2) hx hb dX7_addLot_36 (by decide) ?_
  refine lv_iadd hx hb dX7_addLot_37 ?_
  refine lv_iload_n hx hb dX7_addLot_38 rfl (lv_at hl 3 rfl) ?_
  refine zastN C hw (zq20 hL gw) ((3 * ln) + 2) (by omega) (zadd (zmul rfl rfl) rfl) (by decide) dX7_addLot_39 (fun H locs m3 em3 hw => ?_)
  refine lv_aload_n hx hb dX7_addLot_40 rfl (lv_at hl 0 rfl) ?_
  refine lv_dup hx hb dX7_addLot_41 rfl ?_
  refine zg_X7_67 C hw (zn13 hL gw) dX7_addLot_42 ?_
  refine lv_iconst (v := 1) hx hb dX7_addLot_45 (by decide) ?_
  refine lv_iadd hx hb dX7_addLot_46 ?_
  refine zp_X7_67 C hw (zn13 hL gw) dX7_addLot_47 (fun H locs m4 em4 hw => ?_)
  exact zret_v C hr hlocks hw dX7_addLot_50 (by first | rfl | (subst_vars; first | rfl))

set_option maxHeartbeats 4000000 in
set_option maxRecDepth 100000 in
theorem c_X7_dropLot (l : Launch) (D : va_G) (cy : Nat → ClassId) (ad : ZN → Nat) (m : ZM) (sz : Nat) {L : List ZN} (hL : zL L) {w : Nat} (gw : w < 2) {ln : Nat} (hln : m (13, w, 0) 14 = nI ln) (l1 : 1 ≤ ln) (lln : ln ≤ 30) : Met l yX7_dropLot (zws yX7_dropLot cX7_dropLot 2 none) ({ frames := 0, cells := 0, slots := 0, locals := 0 } : Room) (zPc D cy ad L m sz [.ref (ad (13, w, 0))]) (zQv (fun m1 => m1 = q_drop7 m w ln) D cy ad L sz) 0 0 (zA ad L sz) := by
  refine zopen (Qc := fun sz => zQv (fun m1 => m1 = q_drop7 m w ln) D cy ad L sz) RX7 (plainFor_of_name (by decide)) rfl (Nat.le_of_ble_eq_true rfl) ?_
  intro p e s mi below meth c ls C hr hlocks hml hl H locs hw
  obtain ⟨hx, hb, hts, hown, hK, hNw⟩ := id C
  have hl : lv_has ls 2 [(0, .ref (ad (13, w, 0)))] := hl
  refine lv_aload_n hx hb dX7_dropLot_0 rfl (lv_at hl 0 rfl) ?_
  refine lv_dup hx hb dX7_dropLot_1 rfl ?_
  refine zg_X7_67 C hw (zn13 hL gw) dX7_dropLot_2 ?_
  refine ztop hln ?_
  refine lv_iconst (v := 1) hx hb dX7_dropLot_5 (by decide) ?_
  refine lv_isub hx hb dX7_dropLot_6 ?_
  refine zp_X7_67 C hw (zn13 hL gw) dX7_dropLot_7 (fun H locs m1 em1 hw => ?_)
  refine lv_iconst (v := 0) hx hb dX7_dropLot_10 (by decide) ?_
  refine lv_istore_n (lv' := [(1, .int 0), (0, .ref (ad (13, w, 0)))]) hx hb dX7_dropLot_11 rfl hl (by decide) rfl (fun ls hl => ?_)
  have loop12 : ∀ (z : Nat) (k : Nat) (m0 : ZM) (H : Heap) (locs : List Loc) (ls : Array Slot), 3 * (ln - 1) - k = z → (k ≤ 3 * (ln - 1)) → (m0 = q_shift w (zs m (13, w, 0) 14 (nI ln - 1)) k) → zH D cy ad L s.heap H locs m0 → lv_has ls 2 [(0, .ref (ad (13, w, 0))), (1, .int (nI k))] → W p l e ({ frames := 0, cells := 0, slots := 0, locals := 0 } : Room) s mi [.ref (ad (13, w, 0))].toArray below meth c H locs 0 0 (MQ below (zQv (fun m1 => m1 = q_drop7 m w ln) D cy ad L s.heap.size) [.ref (ad (13, w, 0))].toArray s 0 0 (zA ad L s.heap.size)) (F0 mi 12 ls []) := by
    intro z
    induction z using Nat.strongRecOn with
    | _ z ih12 =>
    intro k m0 H locs ls hz12 i12_1 i12_2 hw hl
    have h1 : m0 (13, w, 0) 14 = nI (ln - 1) := by rw [i12_2, q_shift_k (zk rfl), zs_eq rfl]; exact pk_sub l1
    refine lv_iload_n hx hb dX7_dropLot_12 rfl (lv_at hl 1 rfl) ?_
    refine lv_iconst (v := 3) hx hb dX7_dropLot_13 (by decide) ?_
    refine lv_aload_n hx hb dX7_dropLot_14 rfl (lv_at hl 0 rfl) ?_
    refine zg_X7_67 C hw (zn13 hL gw) dX7_dropLot_15 ?_
    refine ztop h1 ?_
    refine lv_imul hx hb dX7_dropLot_18 ?_
    refine lv_icmp_ge (tgt := 42) hx hb dX7_dropLot_19 (by decide) (fun c19_2 => ?_) (fun c19_2 => ?_)
    · skip
      have n3 := zle c19_2 (a := (3 * (ln - 1))) (b := k) (zmul rfl rfl) rfl (by omega) (by omega)
      exact zret_v C hr hlocks hw dX7_dropLot_42 (by rw [i12_2, show k = 3 * (ln - 1) by omega, q_drop7, hln])
    · skip
      have n4 := znle c19_2 (a := (3 * (ln - 1))) (b := k) (zmul rfl rfl) rfl (by omega) (by omega)
      refine lv_aload_n hx hb dX7_dropLot_22 rfl (lv_at hl 0 rfl) ?_
      refine zg_X7_49 C hw (zn13 hL gw) dX7_dropLot_23 ?_
      refine lv_iload_n hx hb dX7_dropLot_26 rfl (lv_at hl 1 rfl) ?_
      refine lv_aload_n hx hb dX7_dropLot_27 rfl (lv_at hl 0 rfl) ?_
      refine zg_X7_49 C hw (zn13 hL gw) dX7_dropLot_28 ?_
      refine lv_iload_n hx hb dX7_dropLot_31 rfl (lv_at hl 1 rfl) ?_
      refine lv_iconst (v := 3) hx hb dX7_dropLot_32 (by decide) ?_
      refine lv_iadd hx hb dX7_dropLot_33 ?_
      refine zaldN C hw (zq20 hL gw) (k + 3) (by omega) (zadd rfl rfl) (by decide) dX7_dropLot_34 ?_
      refine zastN C hw (zq20 hL gw) k (by omega) rfl (by decide) dX7_dropLot_35 (fun H locs m5 em5 hw => ?_)
      refine lv_iinc (v := (nI (k + 1))) (lv' := [(1, .int (nI (k + 1))), (0, .ref (ad (13, w, 0)))]) hx hb dX7_dropLot_36 hl (k := 1) rfl (nI_1 k) (by decide) rfl (fun ls hl => ?_)
      refine lv_goto (tgt := 12) hx hb dX7_dropLot_39 (by decide) ?_
      exact ih12 _ (by omega) (k + 1) m5 _ _ _ rfl (by omega) (by rw [em5, i12_2]; rfl) hw (lv_sub hl [1, 0] rfl)
  exact loop12 _ 0 m1 _ _ _ rfl (Nat.zero_le _) (by rw [em1]; rfl) hw (lv_sub hl [1, 0] rfl)

set_option maxHeartbeats 4000000 in
set_option maxRecDepth 100000 in
theorem c_X7_load (l : Launch) (D : va_G) (cy : Nat → ClassId) (ad : ZN → Nat) (m : ZM) (sz : Nat) {L : List ZN} (hL : zL L) {w : Nat} (gw : w < 2) {bc : Nat} {sc : Nat → Nat} (hbc : m (13, w, 0) 4 = nI bc) (lbc : bc ≤ 4) (hsc : ∀ b, b < 4 → m (2, 11 + 20 * w, 4) b = nI (sc b) ∧ sc b ≤ 4) : Met l yX7_load (zws yX7_load cX7_load 4 (some .int)) ({ frames := 0, cells := 0, slots := 0, locals := 0 } : Room) (zPc D cy ad L m sz [.ref (ad (13, w, 0))]) (zQi (fun r m1 => r = q_load7 m w sc bc ∧ m1 = m) D cy ad L sz) 0 0 (zA ad L sz) := by
  refine zopen (Qc := fun sz => zQi (fun r m1 => r = q_load7 m w sc bc ∧ m1 = m) D cy ad L sz) RX7 (plainFor_of_name (by decide)) rfl (Nat.le_of_ble_eq_true rfl) ?_
  intro p e s mi below meth c ls C hr hlocks hml hl H locs hw
  obtain ⟨hx, hb, hts, hown, hK, hNw⟩ := id C
  have hl : lv_has ls 4 [(0, .ref (ad (13, w, 0)))] := hl
  refine lv_bipush (v := 20) hx hb dX7_load_0 (by decide) ?_
  refine lv_istore_n (lv' := [(1, .int 20), (0, .ref (ad (13, w, 0)))]) hx hb dX7_load_2 rfl hl (by decide) rfl (fun ls hl => ?_)
  refine lv_iconst (v := 0) hx hb dX7_load_3 (by decide) ?_
  refine lv_istore_n (lv' := [(2, .int 0), (1, .int 20), (0, .ref (ad (13, w, 0)))]) hx hb dX7_load_4 rfl hl (by decide) rfl (fun ls hl => ?_)
  have loop5 : ∀ (z : Nat) (k : Nat) (x : Int32) (H : Heap) (locs : List Loc) (ls : Array Slot), bc - k = z → (k ≤ bc) → (x = q_load7 m w sc k) → zH D cy ad L s.heap H locs m → lv_has ls 4 [(0, .ref (ad (13, w, 0))), (1, .int x), (2, .int (nI k))] → W p l e ({ frames := 0, cells := 0, slots := 0, locals := 0 } : Room) s mi [.ref (ad (13, w, 0))].toArray below meth c H locs 0 0 (MQ below (zQi (fun r m1 => r = q_load7 m w sc bc ∧ m1 = m) D cy ad L s.heap.size) [.ref (ad (13, w, 0))].toArray s 0 0 (zA ad L s.heap.size)) (F0 mi 5 ls []) := by
    intro z
    induction z using Nat.strongRecOn with
    | _ z ih5 =>
    intro k x H locs ls hz5 i5_1 i5_2 hw hl
    refine lv_iload_n hx hb dX7_load_5 rfl (lv_at hl 2 rfl) ?_
    refine lv_aload_n hx hb dX7_load_6 rfl (lv_at hl 0 rfl) ?_
    refine zg_X7_64 C hw (zn13 hL gw) dX7_load_7 ?_
    refine ztop hbc ?_
    refine lv_icmp_ge (tgt := 63) hx hb dX7_load_10 (by decide) (fun c10_1 => ?_) (fun c10_1 => ?_)
    · skip
      have n2 := zle c10_1 (a := bc) (b := k) rfl rfl (by omega) (by omega)
      refine lv_iload_n hx hb dX7_load_63 rfl (lv_at hl 1 rfl) ?_
      exact zret_i C hr hlocks hw dX7_load_64 ⟨by rw [i5_2, show k = bc by omega], rfl⟩
    · skip
      have n3 := znle c10_1 (a := bc) (b := k) rfl rfl (by omega) (by omega)
      refine lv_iconst (v := 0) hx hb dX7_load_13 (by decide) ?_
      refine lv_istore_n (lv' := [(3, .int 0), (0, .ref (ad (13, w, 0))), (1, .int x), (2, .int (nI k))]) hx hb dX7_load_14 rfl hl (by decide) rfl (fun ls hl => ?_)
      have loop15 : ∀ (z : Nat) (j : Nat) (y : Int32) (H : Heap) (locs : List Loc) (ls : Array Slot), sc k - j = z → (j ≤ sc k) → (y = q_load7 m w sc k + q_row7 m w k j) → zH D cy ad L s.heap H locs m → lv_has ls 4 [(0, .ref (ad (13, w, 0))), (1, .int y), (2, .int (nI k)), (3, .int (nI j))] → W p l e ({ frames := 0, cells := 0, slots := 0, locals := 0 } : Room) s mi [.ref (ad (13, w, 0))].toArray below meth c H locs 0 0 (MQ below (zQi (fun r m1 => r = q_load7 m w sc bc ∧ m1 = m) D cy ad L s.heap.size) [.ref (ad (13, w, 0))].toArray s 0 0 (zA ad L s.heap.size)) (F0 mi 15 ls []) := by
        intro z
        induction z using Nat.strongRecOn with
        | _ z ih15 =>
        intro j y H locs ls hz15 i15_1 i15_2 hw hl
        have lsk := (hsc k (by omega)).2
        refine lv_iload_n hx hb dX7_load_15 rfl (lv_at hl 3 rfl) ?_
        refine lv_aload_n hx hb dX7_load_16 rfl (lv_at hl 0 rfl) ?_
        refine zg_X7_22 C hw (zn13 hL gw) dX7_load_17 ?_
        refine lv_iload_n hx hb dX7_load_20 rfl (lv_at hl 2 rfl) ?_
        refine zaldN C hw (zq11 hL gw) k (by omega) rfl (by decide) dX7_load_21 ?_
        refine ztop (hsc k (by omega)).1 ?_
        refine lv_icmp_ge (tgt := 57) hx hb dX7_load_22 (by decide) (fun c22_4 => ?_) (fun c22_4 => ?_)
        · skip
          have n5 := zle c22_4 (a := (sc k)) (b := j) rfl rfl (by omega) (by omega)
          refine lv_iinc (v := (nI (k + 1))) (lv' := [(2, .int (nI (k + 1))), (0, .ref (ad (13, w, 0))), (1, .int y), (3, .int (nI j))]) hx hb dX7_load_57 hl (k := 2) rfl (nI_1 k) (by decide) rfl (fun ls hl => ?_)
          refine lv_goto (tgt := 5) hx hb dX7_load_60 (by decide) ?_
          exact ih5 _ (by omega) (k + 1) y _ _ _ rfl (by omega) (by rw [i15_2, show j = sc k by omega]; rfl) hw (lv_sub hl [1, 2, 0] rfl)
        · skip
          have n6 := znle c22_4 (a := (sc k)) (b := j) rfl rfl (by omega) (by omega)
          refine lv_iload_n hx hb dX7_load_25 rfl (lv_at hl 1 rfl) ?_
          refine lv_aload_n hx hb dX7_load_26 rfl (lv_at hl 0 rfl) ?_
          refine zg_X7_25 C hw (zn13 hL gw) dX7_load_27 ?_
          refine lv_iconst (v := 4) hx hb dX7_load_30 (by decide) ?_
          refine lv_iload_n hx hb dX7_load_31 rfl (lv_at hl 2 rfl) ?_
          refine lv_imul hx hb dX7_load_32 ?_
          refine lv_iload_n hx hb dX7_load_33 rfl (lv_at hl 3 rfl) ?_
          refine lv_iadd hx hb dX7_load_34 ?_
          refine zaldN C hw (zq12 hL gw) ((4 * k) + j) (by omega) (zadd (zmul rfl rfl) rfl) (by decide) dX7_load_35 ?_
          refine lv_aload_n hx hb dX7_load_36 rfl (lv_at hl 0 rfl) ?_
          refine zg_X7_28 C hw (zn13 hL gw) dX7_load_37 ?_
          refine lv_iconst (v := 4) hx hb dX7_load_40 (by decide) ?_
          refine lv_iload_n hx hb dX7_load_41 rfl (lv_at hl 2 rfl) ?_
          refine lv_imul hx hb dX7_load_42 ?_
          refine lv_iload_n hx hb dX7_load_43 rfl (lv_at hl 3 rfl) ?_
          refine lv_iadd hx hb dX7_load_44 ?_
          refine zaldN C hw (zq13 hL gw) ((4 * k) + j) (by omega) (zadd (zmul rfl rfl) rfl) (by decide) dX7_load_45 ?_
          refine lv_imul hx hb dX7_load_46 ?_
          refine lv_iconst (v := 4) hx hb dX7_load_47 (by decide) ?_
          refine lv_idiv hx hb dX7_load_48 (by decide) ?_
          refine lv_iadd hx hb dX7_load_49 ?_
          refine lv_topi (fun x7 ex7 => ?_)
          refine lv_istore_n (lv' := [(1, .int x7), (0, .ref (ad (13, w, 0))), (2, .int (nI k)), (3, .int (nI j))]) hx hb dX7_load_50 rfl hl (by decide) rfl (fun ls hl => ?_)
          refine lv_iinc (v := (nI (j + 1))) (lv' := [(3, .int (nI (j + 1))), (1, .int x7), (0, .ref (ad (13, w, 0))), (2, .int (nI k))]) hx hb dX7_load_51 hl (k := 3) rfl (nI_1 j) (by decide) rfl (fun ls hl => ?_)
          refine lv_goto (tgt := 15) hx hb dX7_load_54 (by decide) ?_
          exact ih15 _ (by omega) (j + 1) x7 _ _ _ rfl (by omega) (by rw [ex7, i15_2, Int32.add_assoc]; rfl) hw (lv_sub hl [2, 1, 3, 0] rfl)
      exact loop15 _ 0 x _ _ _ rfl (Nat.zero_le _) (by rw [i5_2]; exact (Int32.add_zero _).symm) hw (lv_sub hl [1, 2, 3, 0] rfl)
  exact loop5 _ 0 20 _ _ _ rfl (Nat.zero_le _) rfl hw (lv_sub hl [2, 1, 0] rfl)

set_option maxHeartbeats 4000000 in
set_option maxRecDepth 100000 in
theorem c_X7_eat (l : Launch) (D : va_G) (cy : Nat → ClassId) (ad : ZN → Nat) (m : ZM) (sz : Nat) {L : List ZN} (hL : zL L) {w : Nat} (gw : w < 2) (b : Nat) (gb : b < 4) {ln : Nat} (hln : m (13, w, 0) 14 = nI ln) (lln : ln ≤ 30) : Met l yX7_eat (zws yX7_eat cX7_eat 4 none) ({ frames := 2, cells := 0, slots := 0, locals := 49 } : Room) (zPc D cy ad L m sz [.ref (ad (13, w, 0)), .int (nI b)]) (zQv (fun m1 => m1 = q_eat w b 31 m (m (2, 15 + 20 * w, 4) b)) D cy ad L sz) 0 0 (zA ad L sz) := by
  refine zopen (Qc := fun sz => zQv (fun m1 => m1 = q_eat w b 31 m (m (2, 15 + 20 * w, 4) b)) D cy ad L sz) RX7 (plainFor_of_name (by decide)) rfl (Nat.le_of_ble_eq_true rfl) ?_
  intro p e s mi below meth c ls C hr hlocks hml hl H locs hw
  obtain ⟨hx, hb, hts, hown, hK, hNw⟩ := id C
  have hl : lv_has ls 4 [(0, .ref (ad (13, w, 0))), (1, .int (nI b))] := hl
  refine lv_aload_n hx hb dX7_eat_0 rfl (lv_at hl 0 rfl) ?_
  refine zg_X7_34 C hw (zn13 hL gw) dX7_eat_1 ?_
  refine lv_iload_n hx hb dX7_eat_4 rfl (lv_at hl 1 rfl) ?_
  refine zaldN C hw (zq15 hL gw) b (by omega) rfl (by decide) dX7_eat_5 ?_
  refine lv_topi (fun x1 ex1 => ?_)
  refine lv_istore_n (lv' := [(2, .int x1), (0, .ref (ad (13, w, 0))), (1, .int (nI b))]) hx hb dX7_eat_6 rfl hl (by decide) rfl (fun ls hl => ?_)
  have loop7 : ∀ (z : Nat) (k n : Nat) (x2 : Int32) (m0 : ZM) (H : Heap) (locs : List Loc) (ls : Array Slot), 31 - k = z → (q_eat w b (31 - k) m0 x2 = q_eat w b 31 m (m (2, 15 + 20 * w, 4) b)) → (m0 (13, w, 0) 14 = nI n) → (n ≤ 30) → (k ≤ 31) → (n + k ≤ 30 ∨ x2 ≤ 0) → zH D cy ad L s.heap H locs m0 → lv_has ls 4 [(0, .ref (ad (13, w, 0))), (1, .int (nI b)), (2, .int x2)] → W p l e ({ frames := 2, cells := 0, slots := 0, locals := 49 } : Room) s mi [.ref (ad (13, w, 0)), .int (nI b)].toArray below meth c H locs 0 0 (MQ below (zQv (fun m1 => m1 = q_eat w b 31 m (m (2, 15 + 20 * w, 4) b)) D cy ad L s.heap.size) [.ref (ad (13, w, 0)), .int (nI b)].toArray s 0 0 (zA ad L s.heap.size)) (F0 mi 7 ls []) := by
    intro z
    induction z using Nat.strongRecOn with
    | _ z ih7 =>
    intro k n x2 m0 H locs ls hz7 i7_1 i7_2 i7_3 i7_4 i7_5 hw hl
    refine lv_iload_n hx hb dX7_eat_7 rfl (lv_at hl 2 rfl) ?_
    refine lv_if_le (tgt := 92) hx hb dX7_eat_8 (by decide) (fun c8_2 => ?_) (fun c8_2 => ?_)
    · skip
      exact zret_v C hr hlocks hw dX7_eat_92 (by rw [← i7_1]; exact (q_eat_stop c8_2).symm)
    · skip
      refine lv_aload_n hx hb dX7_eat_11 rfl (lv_at hl 0 rfl) ?_
      refine zg_X7_67 C hw (zn13 hL gw) dX7_eat_12 ?_
      refine lv_if_le (tgt := 92) hx hb dX7_eat_15 (by decide) (fun c15_3 => ?_) (fun c15_3 => ?_)
      · skip
        exact zret_v C hr hlocks hw dX7_eat_92 (by rw [← i7_1]; exact (q_eat_stop2 c15_3).symm)
      · skip
        have l1 : 1 ≤ n := by
          rcases Nat.eq_zero_or_pos n with q | q
          · exact absurd (show m0 (13, w, 0) 14 ≤ 0 by rw [i7_2, q]; exact Int32.le_refl _) c15_3
          · exact q
        have lk : n + k ≤ 30 := i7_5.resolve_right c8_2
        refine lv_iload_n hx hb dX7_eat_18 rfl (lv_at hl 2 rfl) ?_
        refine lv_aload_n hx hb dX7_eat_19 rfl (lv_at hl 0 rfl) ?_
        refine zg_X7_49 C hw (zn13 hL gw) dX7_eat_20 ?_
        refine lv_iconst (v := 0) hx hb dX7_eat_23 (by decide) ?_
        refine zaldN C hw (zq20 hL gw) 0 (by omega) rfl (by decide) dX7_eat_24 ?_
        refine lv_aload_n hx hb dX7_eat_25 rfl (lv_at hl 0 rfl) ?_
        refine zg_X7_49 C hw (zn13 hL gw) dX7_eat_26 ?_
        refine lv_iconst (v := 1) hx hb dX7_eat_29 (by decide) ?_
        refine zaldN C hw (zq20 hL gw) 1 (by omega) rfl (by decide) dX7_eat_30 ?_
        refine lv_iadd hx hb dX7_eat_31 ?_
        refine va_mmin hx hb (hml.trans hl.1.symm) hown (hts _ zL_X7_81) (hts _ zT_min) (hts _ zN_Math) (hts _ zO_min) (Nat.le_of_ble_eq_true rfl) (Nat.le_of_ble_eq_true rfl) (Nat.zero_le _) (Nat.zero_le _) dX7_eat_32 ?_
        refine lv_topi (fun x4 ex4 => ?_)
        refine lv_istore_n (lv' := [(3, .int x4), (0, .ref (ad (13, w, 0))), (1, .int (nI b)), (2, .int x2)]) hx hb dX7_eat_35 rfl hl (by decide) rfl (fun ls hl => ?_)
        refine lv_aload_n hx hb dX7_eat_36 rfl (lv_at hl 1 rfl) ?_
        refine zg_X7_40 C hw (zn13 hL gw) dX7_eat_37 ?_
        refine lv_iload_n hx hb dX7_eat_40 rfl (lv_at hl 2 rfl) ?_
        refine lv_aload_n hx hb dX7_eat_41 rfl (lv_at hl 1 rfl) ?_
        refine zg_X7_49 C hw (zn13 hL gw) dX7_eat_42 ?_
        refine lv_iconst (v := 2) hx hb dX7_eat_45 (by decide) ?_
        refine zaldN C hw (zq20 hL gw) 2 (by omega) rfl (by decide) dX7_eat_46 ?_
        refine zastN C hw (zq17 hL gw) b (by omega) rfl (by decide) dX7_eat_47 (fun H locs m5 em5 hw => ?_)
        refine lv_aload_n hx hb dX7_eat_48 rfl (lv_at hl 1 rfl) ?_
        refine zg_X7_49 C hw (zn13 hL gw) dX7_eat_49 ?_
        refine lv_iconst (v := 0) hx hb dX7_eat_52 (by decide) ?_
        refine lv_aload_n hx hb dX7_eat_53 rfl (lv_at hl 1 rfl) ?_
        refine zg_X7_46 C hw (zn13 hL gw) dX7_eat_54 ?_
        refine lv_bipush (v := 6) hx hb dX7_eat_57 (by decide) ?_
        refine lv_iload_n hx hb dX7_eat_59 rfl (lv_at hl 2 rfl) ?_
        refine lv_imul hx hb dX7_eat_60 ?_
        refine lv_iload_n hx hb dX7_eat_61 rfl (lv_at hl 0 rfl) ?_
        rw [show (6 * (nI b)) = nI (6 * b) from (zmul rfl rfl)]
        refine zafter_v C hw (zrunS (rest := []) C hml hl.1 hw (c_X7_move l D cy ad m5 H.size (zq20 hL gw) (by decide) (zq19 hL gw) (by decide) 0 (6 * b) (by omega) (by omega) x4) zv_X7_109 rfl rfl rfl ⟨Nat.le_of_ble_eq_true rfl, Nat.le_of_ble_eq_true rfl⟩ rfl (Nat.le_of_ble_eq_true rfl) dX7_eat_62 ⟨Nat.zero_le _, Nat.zero_le _⟩) (fun m7 H locs h6 hw => ?_)
        have em7 := h6
        have h2 : m7 (13, w, 0) 14 = nI n := by rw [em7, q_mv_k (zk rfl) (zk rfl), em5, zs_k (zk rfl)]; exact i7_2
        refine lv_iload_n hx hb dX7_eat_65 rfl (lv_at hl 3 rfl) ?_
        refine lv_iload_n hx hb dX7_eat_66 rfl (lv_at hl 0 rfl) ?_
        refine lv_isub hx hb dX7_eat_67 ?_
        refine lv_topi (fun x9 ex9 => ?_)
        refine lv_istore_n (lv' := [(2, .int x9), (3, .int x4), (0, .ref (ad (13, w, 0))), (1, .int (nI b))]) hx hb dX7_eat_68 rfl hl (by decide) rfl (fun ls hl => ?_)
        refine lv_aload_n hx hb dX7_eat_69 rfl (lv_at hl 2 rfl) ?_
        refine zg_X7_49 C hw (zn13 hL gw) dX7_eat_70 ?_
        refine lv_iconst (v := 0) hx hb dX7_eat_73 (by decide) ?_
        refine zaldN C hw (zq20 hL gw) 0 (by omega) rfl (by decide) dX7_eat_74 ?_
        refine lv_aload_n hx hb dX7_eat_75 rfl (lv_at hl 2 rfl) ?_
        refine zg_X7_49 C hw (zn13 hL gw) dX7_eat_76 ?_
        refine lv_iconst (v := 1) hx hb dX7_eat_79 (by decide) ?_
        refine zaldN C hw (zq20 hL gw) 1 (by omega) rfl (by decide) dX7_eat_80 ?_
        refine lv_iadd hx hb dX7_eat_81 ?_
        refine lv_if_ne (tgt := 89) hx hb dX7_eat_82 (by decide) (fun c82_10 => ?_) (fun c82_10 => ?_)
        · skip
          refine lv_goto (tgt := 7) hx hb dX7_eat_89 (by decide) ?_
          exact ih7 _ (by omega) (k + 1) n x9 m7 _ _ _ rfl (by rw [← i7_1, show 31 - k = (31 - (k + 1)) + 1 by omega]; exact (q_eat_go (ln := n) (by rw [i7_2]; exact nI_clamp (by omega)) c8_2 c15_3 ex4 em5 em7 ex9 (Or.inl ⟨c82_10, rfl⟩)).symm) h2 i7_3 (by omega) (Or.inr (q_eat_end ex4 em5 em7 ex9 c82_10)) hw (lv_sub hl [2, 3, 0] rfl)
        · skip
          refine lv_aload_n hx hb dX7_eat_85 rfl (lv_at hl 2 rfl) ?_
          refine zafter_v C hw (zrunV (rest := []) C hml hl.1 hw (zn13 hL gw) rfl rfl (c_X7_dropLot l D cy ad m7 H.size hL gw h2 l1 i7_3) zv_X7_113 rfl rfl rfl ⟨Nat.le_of_ble_eq_true rfl, Nat.le_of_ble_eq_true rfl⟩ rfl (Nat.le_of_ble_eq_true rfl) dX7_eat_86 ⟨Nat.zero_le _, Nat.zero_le _⟩) (fun m12 H locs h11 hw => ?_)
          have em12 := h11
          refine lv_goto (tgt := 7) hx hb dX7_eat_89 (by decide) ?_
          exact ih7 _ (by omega) (k + 1) (n - 1) x9 m12 _ _ _ rfl (by rw [← i7_1, show 31 - k = (31 - (k + 1)) + 1 by omega]; exact (q_eat_go (ln := n) (by rw [i7_2]; exact nI_clamp (by omega)) c8_2 c15_3 ex4 em5 em7 ex9 (Or.inr ⟨fun z => z c82_10, em12⟩)).symm) (by rw [em12]; exact q_drop7_n h2 l1) (by omega) (by omega) (Or.inl (by omega)) hw (lv_sub hl [2, 3, 0] rfl)
  exact loop7 _ 0 ln x1 m _ _ _ rfl (by rw [ex1]) hln lln (by omega) (Or.inl (by omega)) hw (lv_sub hl [1, 2, 0] rfl)

set_option maxHeartbeats 4000000 in
set_option maxRecDepth 100000 in
theorem c_X7_blow (l : Launch) (D : va_G) (cy : Nat → ClassId) (ad : ZN → Nat) (m : ZM) (sz : Nat) {L : List ZN} (hL : zL L) {w : Nat} (gw : w < 2) (b : Nat) (gb : b < 4) {cn : Nat} (hc : m (2, 11 + 20 * w, 4) b = nI cn) (lc : cn ≤ 4) {hd : Nat} (hh : m (2, 17 + 20 * w, 4) b = nI hd) (l1 : 1 ≤ hd) (l2 : hd ≤ 9) (t : Int32) : Met l yX7_blow (zws yX7_blow cX7_blow 4 none) ({ frames := 2, cells := 0, slots := 0, locals := 49 } : Room) (zPc D cy ad L m sz [.ref (ad (13, w, 0)), .int (nI b), .int t]) (zQv (fun m1 => m1 = q_blow7 m w b cn hd t) D cy ad L sz) 0 0 (zA ad L sz) := by
  refine zopen (Qc := fun sz => zQv (fun m1 => m1 = q_blow7 m w b cn hd t) D cy ad L sz) RX7 (plainFor_of_name (by decide)) rfl (Nat.le_of_ble_eq_true rfl) ?_
  intro p e s mi below meth c ls C hr hlocks hml hl H locs hw
  obtain ⟨hx, hb, hts, hown, hK, hNw⟩ := id C
  have hl : lv_has ls 4 [(0, .ref (ad (13, w, 0))), (1, .int (nI b)), (2, .int t)] := hl
  refine lv_aload_n hx hb dX7_blow_0 rfl (lv_at hl 0 rfl) ?_
  refine zg_X7_43 C hw (zn13 hL gw) dX7_blow_1 ?_
  refine lv_iload_n hx hb dX7_blow_4 rfl (lv_at hl 1 rfl) ?_
  refine lv_iconst (v := 0) hx hb dX7_blow_5 (by decide) ?_
  refine zastN C hw (zq18 hL gw) b (by omega) rfl (by decide) dX7_blow_6 (fun H locs m1 em1 hw => ?_)
  refine lv_iconst (v := 4) hx hb dX7_blow_7 (by decide) ?_
  refine lv_iload_n hx hb dX7_blow_8 rfl (lv_at hl 1 rfl) ?_
  refine lv_imul hx hb dX7_blow_9 ?_
  refine ztop (y := nI (4 * b)) (zmul rfl rfl) ?_
  refine lv_istore_n (lv' := [(3, .int (nI (4 * b))), (0, .ref (ad (13, w, 0))), (1, .int (nI b)), (2, .int t)]) hx hb dX7_blow_10 rfl hl (by decide) rfl (fun ls hl => ?_)
  have loop11 : ∀ (z : Nat) (k : Nat) (m0 : ZM) (H : Heap) (locs : List Loc) (ls : Array Slot), cn - k = z → (k ≤ cn) → (m0 = q_fs7 m w b t k) → zH D cy ad L s.heap H locs m0 → lv_has ls 4 [(0, .ref (ad (13, w, 0))), (1, .int (nI b)), (2, .int t), (3, .int (nI (4 * b + k)))] → W p l e ({ frames := 2, cells := 0, slots := 0, locals := 49 } : Room) s mi [.ref (ad (13, w, 0)), .int (nI b), .int t].toArray below meth c H locs 0 0 (MQ below (zQv (fun m1 => m1 = q_blow7 m w b cn hd t) D cy ad L s.heap.size) [.ref (ad (13, w, 0)), .int (nI b), .int t].toArray s 0 0 (zA ad L s.heap.size)) (F0 mi 11 ls []) := by
    intro z
    induction z using Nat.strongRecOn with
    | _ z ih11 =>
    intro k m0 H locs ls hz11 i11_1 i11_2 hw hl
    have h1 : m0 (2, 11 + 20 * w, 4) b = nI cn := by rw [i11_2, q_fs7_k (z2_ne (by omega))]; exact hc
    refine lv_iload_n hx hb dX7_blow_11 rfl (lv_at hl 3 rfl) ?_
    refine lv_iconst (v := 4) hx hb dX7_blow_12 (by decide) ?_
    refine lv_iload_n hx hb dX7_blow_13 rfl (lv_at hl 1 rfl) ?_
    refine lv_imul hx hb dX7_blow_14 ?_
    refine lv_aload_n hx hb dX7_blow_15 rfl (lv_at hl 0 rfl) ?_
    refine zg_X7_22 C hw (zn13 hL gw) dX7_blow_16 ?_
    refine lv_iload_n hx hb dX7_blow_19 rfl (lv_at hl 1 rfl) ?_
    refine zaldN C hw (zq11 hL gw) b (by omega) rfl (by decide) dX7_blow_20 ?_
    refine ztop h1 ?_
    refine lv_iadd hx hb dX7_blow_21 ?_
    refine lv_icmp_ge (tgt := 69) hx hb dX7_blow_22 (by decide) (fun c22_2 => ?_) (fun c22_2 => ?_)
    · skip
      have n3 := zle c22_2 (a := ((4 * b) + cn)) (b := (4 * b + k)) (zadd (zmul rfl rfl) rfl) rfl (by omega) (by omega)
      have h3 : m0 (2, 17 + 20 * w, 4) b = nI hd := by rw [i11_2, q_fs7_k (z2_ne (by omega))]; exact hh
      refine lv_bipush (v := 6) hx hb dX7_blow_69 (by decide) ?_
      refine lv_iload_n hx hb dX7_blow_71 rfl (lv_at hl 1 rfl) ?_
      refine lv_imul hx hb dX7_blow_72 ?_
      refine ztop (y := nI (6 * b)) (zmul rfl rfl) ?_
      refine lv_istore_n (lv' := [(3, .int (nI (6 * b))), (0, .ref (ad (13, w, 0))), (1, .int (nI b)), (2, .int t)]) hx hb dX7_blow_73 rfl hl (by decide) rfl (fun ls hl => ?_)
      refine lv_aload_n hx hb dX7_blow_74 rfl (lv_at hl 1 rfl) ?_
      refine zg_X7_46 C hw (zn13 hL gw) dX7_blow_75 ?_
      refine lv_iload_n hx hb dX7_blow_78 rfl (lv_at hl 0 rfl) ?_
      refine lv_aload_n hx hb dX7_blow_79 rfl (lv_at hl 1 rfl) ?_
      refine zg_X7_46 C hw (zn13 hL gw) dX7_blow_80 ?_
      refine lv_iload_n hx hb dX7_blow_83 rfl (lv_at hl 0 rfl) ?_
      refine lv_iconst (v := 2) hx hb dX7_blow_84 (by decide) ?_
      refine lv_iadd hx hb dX7_blow_85 ?_
      refine lv_aload_n hx hb dX7_blow_86 rfl (lv_at hl 1 rfl) ?_
      refine lv_iload_n hx hb dX7_blow_87 rfl (lv_at hl 2 rfl) ?_
      refine lv_iconst (v := 0) hx hb dX7_blow_88 (by decide) ?_
      refine zafter_i C hw (zrunV (rest := [.int ((nI (6 * b)) + 2), .ref (ad (2, 19 + 20 * w, 24)), .int (nI (6 * b)), .ref (ad (2, 19 + 20 * w, 24))]) C hml hl.1 hw (zn13 hL gw) rfl rfl (c_X7_oreOf l D cy ad m0 H.size hL gw b 0 gb (by decide)) zv_X7_102 rfl rfl rfl ⟨Nat.le_of_ble_eq_true rfl, Nat.le_of_ble_eq_true rfl⟩ rfl (Nat.le_of_ble_eq_true rfl) dX7_blow_89 ⟨Nat.zero_le _, Nat.zero_le _⟩) (fun r6 m5 H locs h4 hw => ?_)
      obtain ⟨er6, h4⟩ := h4
      rw [h4] at hw
      clear h4 m5
      refine lv_aload_n hx hb dX7_blow_92 rfl (lv_at hl 1 rfl) ?_
      refine zg_X7_43 C hw (zn13 hL gw) dX7_blow_93 ?_
      refine lv_iload_n hx hb dX7_blow_96 rfl (lv_at hl 2 rfl) ?_
      refine zaldN C hw (zq18 hL gw) b (by omega) rfl (by decide) dX7_blow_97 ?_
      refine lv_aload_n hx hb dX7_blow_98 rfl (lv_at hl 1 rfl) ?_
      refine zg_X7_40 C hw (zn13 hL gw) dX7_blow_99 ?_
      refine lv_iload_n hx hb dX7_blow_102 rfl (lv_at hl 2 rfl) ?_
      refine zaldN C hw (zq17 hL gw) b (by omega) rfl (by decide) dX7_blow_103 ?_
      refine ztop h3 ?_
      refine lv_idiv hx hb dX7_blow_104 (nI_ne0 (by omega) (by omega)) ?_
      refine va_mmin hx hb (hml.trans hl.1.symm) hown (hts _ zL_X7_81) (hts _ zT_min) (hts _ zN_Math) (hts _ zO_min) (Nat.le_of_ble_eq_true rfl) (Nat.le_of_ble_eq_true rfl) (Nat.zero_le _) (Nat.zero_le _) dX7_blow_105 ?_
      rw [show ((nI (6 * b)) + 2) = nI ((6 * b) + 2) from (zadd rfl rfl)]
      refine zafter_v C hw (zrunS (rest := []) C hml hl.1 hw (c_X7_move l D cy ad m0 H.size (zq19 hL gw) (by decide) (zq19 hL gw) (by decide) (6 * b) (6 * b + 2) (by omega) (by omega) (if ((m0 (2, 18 + 20 * w, 4) b) / (nI hd)) < r6 then ((m0 (2, 18 + 20 * w, 4) b) / (nI hd)) else r6)) zv_X7_109 rfl rfl rfl ⟨Nat.le_of_ble_eq_true rfl, Nat.le_of_ble_eq_true rfl⟩ rfl (Nat.le_of_ble_eq_true rfl) dX7_blow_108 ⟨Nat.zero_le _, Nat.zero_le _⟩) (fun m8 H locs h7 hw => ?_)
      have em8 := h7
      have h4 : m8 (2, 17 + 20 * w, 4) b = nI hd := by rw [em8, q_mv_ne (z2_ne (by omega)) (z2_ne (by omega))]; exact h3
      refine lv_aload_n hx hb dX7_blow_111 rfl (lv_at hl 1 rfl) ?_
      refine zg_X7_46 C hw (zn13 hL gw) dX7_blow_112 ?_
      refine lv_iload_n hx hb dX7_blow_115 rfl (lv_at hl 0 rfl) ?_
      refine lv_iconst (v := 2) hx hb dX7_blow_116 (by decide) ?_
      refine lv_iadd hx hb dX7_blow_117 ?_
      refine lv_aload_n hx hb dX7_blow_118 rfl (lv_at hl 1 rfl) ?_
      refine zg_X7_46 C hw (zn13 hL gw) dX7_blow_119 ?_
      refine lv_iload_n hx hb dX7_blow_122 rfl (lv_at hl 0 rfl) ?_
      refine lv_iconst (v := 4) hx hb dX7_blow_123 (by decide) ?_
      refine lv_iadd hx hb dX7_blow_124 ?_
      refine lv_aload_n hx hb dX7_blow_125 rfl (lv_at hl 1 rfl) ?_
      refine lv_iload_n hx hb dX7_blow_126 rfl (lv_at hl 2 rfl) ?_
      refine lv_iconst (v := 1) hx hb dX7_blow_127 (by decide) ?_
      refine zafter_i C hw (zrunV (rest := [.int ((nI (6 * b)) + 4), .ref (ad (2, 19 + 20 * w, 24)), .int ((nI (6 * b)) + 2), .ref (ad (2, 19 + 20 * w, 24))]) C hml hl.1 hw (zn13 hL gw) rfl rfl (c_X7_oreOf l D cy ad m8 H.size hL gw b 1 gb (by decide)) zv_X7_102 rfl rfl rfl ⟨Nat.le_of_ble_eq_true rfl, Nat.le_of_ble_eq_true rfl⟩ rfl (Nat.le_of_ble_eq_true rfl) dX7_blow_128 ⟨Nat.zero_le _, Nat.zero_le _⟩) (fun r12 m11 H locs h10 hw => ?_)
      obtain ⟨er12, h10⟩ := h10
      rw [h10] at hw
      clear h10 m11
      refine lv_aload_n hx hb dX7_blow_131 rfl (lv_at hl 1 rfl) ?_
      refine zg_X7_43 C hw (zn13 hL gw) dX7_blow_132 ?_
      refine lv_iload_n hx hb dX7_blow_135 rfl (lv_at hl 2 rfl) ?_
      refine zaldN C hw (zq18 hL gw) b (by omega) rfl (by decide) dX7_blow_136 ?_
      refine lv_iconst (v := 2) hx hb dX7_blow_137 (by decide) ?_
      refine lv_aload_n hx hb dX7_blow_138 rfl (lv_at hl 1 rfl) ?_
      refine zg_X7_40 C hw (zn13 hL gw) dX7_blow_139 ?_
      refine lv_iload_n hx hb dX7_blow_142 rfl (lv_at hl 2 rfl) ?_
      refine zaldN C hw (zq17 hL gw) b (by omega) rfl (by decide) dX7_blow_143 ?_
      refine ztop h4 ?_
      refine lv_imul hx hb dX7_blow_144 ?_
      refine lv_idiv hx hb dX7_blow_145 (q_2hd l1 l2) ?_
      refine va_mmin hx hb (hml.trans hl.1.symm) hown (hts _ zL_X7_81) (hts _ zT_min) (hts _ zN_Math) (hts _ zO_min) (Nat.le_of_ble_eq_true rfl) (Nat.le_of_ble_eq_true rfl) (Nat.zero_le _) (Nat.zero_le _) dX7_blow_146 ?_
      rw [show ((nI (6 * b)) + 2) = nI ((6 * b) + 2) from (zadd rfl rfl)]
      rw [show ((nI (6 * b)) + 4) = nI ((6 * b) + 4) from (zadd rfl rfl)]
      refine zafter_v C hw (zrunS (rest := []) C hml hl.1 hw (c_X7_move l D cy ad m8 H.size (zq19 hL gw) (by decide) (zq19 hL gw) (by decide) (6 * b + 2) (6 * b + 4) (by omega) (by omega) (if ((m8 (2, 18 + 20 * w, 4) b) / (2 * (nI hd))) < r12 then ((m8 (2, 18 + 20 * w, 4) b) / (2 * (nI hd))) else r12)) zv_X7_109 rfl rfl rfl ⟨Nat.le_of_ble_eq_true rfl, Nat.le_of_ble_eq_true rfl⟩ rfl (Nat.le_of_ble_eq_true rfl) dX7_blow_149 ⟨Nat.zero_le _, Nat.zero_le _⟩) (fun m14 H locs h13 hw => ?_)
      have em14 := h13
      exact zret_v C hr hlocks hw dX7_blow_152 (by obtain rfl : k = cn := (by omega); subst_vars; rfl)
    · skip
      have n16 := znle c22_2 (a := ((4 * b) + cn)) (b := (4 * b + k)) (zadd (zmul rfl rfl) rfl) rfl (by omega) (by omega)
      refine lv_aload_n hx hb dX7_blow_25 rfl (lv_at hl 0 rfl) ?_
      refine zg_X7_43 C hw (zn13 hL gw) dX7_blow_26 ?_
      refine lv_iload_n hx hb dX7_blow_29 rfl (lv_at hl 1 rfl) ?_
      refine lv_dup2_11 hx hb dX7_blow_30 rfl rfl ?_
      refine zaldN C hw (zq18 hL gw) b (by omega) rfl (by decide) dX7_blow_31 ?_
      refine lv_aload_n hx hb dX7_blow_32 rfl (lv_at hl 0 rfl) ?_
      refine zg_X7_25 C hw (zn13 hL gw) dX7_blow_33 ?_
      refine lv_iload_n hx hb dX7_blow_36 rfl (lv_at hl 3 rfl) ?_
      refine zaldN C hw (zq12 hL gw) (4 * b + k) (by omega) rfl (by decide) dX7_blow_37 ?_
      refine lv_aload_n hx hb dX7_blow_38 rfl (lv_at hl 0 rfl) ?_
      refine zg_X7_28 C hw (zn13 hL gw) dX7_blow_39 ?_
      refine lv_iload_n hx hb dX7_blow_42 rfl (lv_at hl 3 rfl) ?_
      refine zaldN C hw (zq13 hL gw) (4 * b + k) (by omega) rfl (by decide) dX7_blow_43 ?_
      refine lv_imul hx hb dX7_blow_44 ?_
      refine lv_iload_n hx hb dX7_blow_45 rfl (lv_at hl 2 rfl) ?_
      refine lv_imul hx hb dX7_blow_46 ?_
      refine lv_bipush (v := 100) hx hb dX7_blow_47 (by decide) ?_
      refine lv_aload_n hx hb dX7_blow_49 rfl (lv_at hl 0 rfl) ?_
      refine zg_X7_31 C hw (zn13 hL gw) dX7_blow_50 ?_
      refine lv_iload_n hx hb dX7_blow_53 rfl (lv_at hl 3 rfl) ?_
      refine zaldN C hw (zq14 hL gw) (4 * b + k) (by omega) rfl (by decide) dX7_blow_54 ?_
      refine lv_isub hx hb dX7_blow_55 ?_
      refine lv_imul hx hb dX7_blow_56 ?_
      refine lv_sipush (v := 1000) hx hb dX7_blow_57 (by decide) ?_
      refine lv_idiv hx hb dX7_blow_60 (by decide) ?_
      refine lv_iadd hx hb dX7_blow_61 ?_
      refine zastN C hw (zq18 hL gw) b (by omega) rfl (by decide) dX7_blow_62 (fun H locs m17 em17 hw => ?_)
      refine lv_iinc (v := (nI ((4 * b + k) + 1))) (lv' := [(3, .int (nI ((4 * b + k) + 1))), (0, .ref (ad (13, w, 0))), (1, .int (nI b)), (2, .int t)]) hx hb dX7_blow_63 hl (k := 3) rfl (nI_1 (4 * b + k)) (by decide) rfl (fun ls hl => ?_)
      refine lv_goto (tgt := 11) hx hb dX7_blow_66 (by decide) ?_
      exact ih11 _ (by omega) (k + 1) m17 _ _ _ rfl (by omega) (by rw [em17, i11_2]; rfl) hw (lv_sub hl [1, 2, 3, 0] rfl)
  exact loop11 _ 0 m1 _ _ _ rfl (Nat.zero_le _) (by rw [em1]; rfl) hw (lv_sub hl [1, 2, 3, 0] rfl)
