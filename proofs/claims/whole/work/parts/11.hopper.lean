/-! hopper and lots -/
def q_fmod (x y : Int32) : Int32 := if 0 ≤ x ^^^ y then x - x / y * y else if x - x / y * y = 0 then x - x / y * y else x - x / y * y + y
theorem zk {a b : Nat} (h : Nat.beq a b = false) : a ≠ b := Nat.ne_of_beq_eq_false h
theorem z_xor (a b : Nat) : nI a ^^^ nI b = nI (a ^^^ b) := by
  apply Int32.toBitVec_inj.mp
  show BitVec.ofNat 32 a ^^^ BitVec.ofNat 32 b = BitVec.ofNat 32 (a ^^^ b)
  apply BitVec.eq_of_toNat_eq
  simp [BitVec.toNat_xor, Nat.xor_mod_two_pow]
theorem q_fmodN {a d : Nat} (ha : a < 2 ^ 31) (h0 : 0 < d) (hd : d < 2 ^ 31) : q_fmod (nI a) (nI d) = nI (a % d) := by
  have h1 : (0 : Int32) ≤ nI a ^^^ nI d := by
    rw [z_xor]
    exact nI_pos' (Nat.xor_lt_two_pow ha hd)
  unfold q_fmod
  rw [if_pos h1]
  exact pk_rem ha h0 hd
def q_tellLot (m : ZM) (w j : Nat) (k : Int32) : Int32 := if k = 2 then m (10, w, j) 1 else q_tellOre m (7, w, 12 + j) k
def q_copyLot (m : ZM) (w j v i : Nat) : ZM :=
  let m1 := q_become m (7, w, 12 + j) (m (7, v, 12 + i) 0) (m (7, v, 12 + i) 1)
  zs m1 (10, w, j) 1 (m1 (10, v, i) 1)
def q_addLot (m : ZM) (w j : Nat) (a b h : Int32) : ZM :=
  let m1 := q_become m (7, w, 12 + j) a b
  let m2 := zs m1 (10, w, j) 1 h
  zs m2 (8, w, 0) 2 (m2 (8, w, 0) 2 + 1)
def q_dropFirst (m : ZM) (w : Nat) : ZM :=
  let m1 := zs m (8, w, 0) 1 (q_fmod (m (8, w, 0) 1 + 1) 30)
  zs m1 (8, w, 0) 2 (m1 (8, w, 0) 2 - 1)
def q_oreLots (m : ZM) (w f c : Nat) : Int32 := bx_sum (fun j => q_whole m (7, w, 12 + (f + j) % 30)) c
theorem zs_k {m : ZM} {n k : ZN} {j : Nat} {x : Int32} (h : k.1 ≠ n.1) : zs m n j x k = m k := by
  unfold zs zu
  rw [if_neg (fun e => h (by rw [e]))]
theorem zs_ne {m : ZM} {n k : ZN} {j : Nat} {x : Int32} (h : k ≠ n) : zs m n j x k = m k := by
  unfold zs zu
  rw [if_neg h]
theorem zs_eq {m : ZM} {n : ZN} {j i : Nat} {x : Int32} (h : i = j) : zs m n j x n i = x := by
  unfold zs zu upd
  rw [if_pos rfl, if_pos h]
theorem zs_ej {m : ZM} {n : ZN} {j i : Nat} {x : Int32} (h : i ≠ j) : zs m n j x n i = m n i := by
  unfold zs zu upd
  rw [if_pos rfl, if_neg h]
theorem q_put_k {m : ZM} {n k : ZN} {a b : Int32} (h : k.1 ≠ n.1) : q_put m n a b k = m k := by
  unfold q_put
  rw [zs_k h, zs_k h]
theorem q_become_k {m : ZM} {n k : ZN} {a b : Int32} (h : k.1 ≠ n.1) : q_become m n a b k = m k := by
  unfold q_become
  rw [zs_k h, zs_k h]
theorem q_move_k {m : ZM} {n v k : ZN} {a : Int32} (h : k.1 ≠ n.1) (h2 : k.1 ≠ v.1) : q_move m n v a k = m k := by
  unfold q_move
  split
  · rw [q_put_k h, q_put_k h2]
  · rfl
theorem q_dropFirst_1 {m : ZM} {w : Nat} : q_dropFirst m w (8, w, 0) 1 = q_fmod (m (8, w, 0) 1 + 1) 30 := by
  unfold q_dropFirst
  rw [zs_ej (by decide), zs_eq rfl]
/-- the feed of a box: n turns at most -/
def q_feed (w : Nat) (v : ZN) : Nat → ZM → Int32 → Int32 → ZM × Int32
  | 0, m, _, h => (m, h)
  | n + 1, m, a, h => if a ≤ 0 then (m, h) else if m (8, w, 0) 2 ≤ 0 then (m, h) else
    q_feed w v n (if ¬ q_whole (q_move m (7, w, 12 + (m (8, w, 0) 1).toNatClampNeg) v a) (7, w, 12 + (m (8, w, 0) 1).toNatClampNeg) = 0 then q_move m (7, w, 12 + (m (8, w, 0) 1).toNatClampNeg) v a else q_dropFirst (q_move m (7, w, 12 + (m (8, w, 0) 1).toNatClampNeg) v a) w)
      (a - q_moveR m (7, w, 12 + (m (8, w, 0) 1).toNatClampNeg) a) (q_move m (7, w, 12 + (m (8, w, 0) 1).toNatClampNeg) v a (10, w, (m (8, w, 0) 1).toNatClampNeg) 1)
theorem q_feed_go {w g n : Nat} {v : ZN} {m m1 m2 : ZM} {a a1 h h1 r : Int32} (hj : (m (8, w, 0) 1).toNatClampNeg = g) (c1 : ¬ a ≤ 0) (c2 : ¬ m (8, w, 0) 2 ≤ 0) (er : r = q_moveR m (7, w, 12 + g) a) (e1 : m1 = q_move m (7, w, 12 + g) v a) (ea : a1 = a - r) (eh : h1 = m1 (10, w, g) 1)
    (e2 : (¬ q_whole m1 (7, w, 12 + g) = 0 ∧ m2 = m1) ∨ (¬ ¬ q_whole m1 (7, w, 12 + g) = 0 ∧ m2 = q_dropFirst m1 w)) : q_feed w v (n + 1) m a h = q_feed w v n m2 a1 h1 := by
  rw [q_feed, if_neg c1, if_neg c2, hj]
  subst er e1 ea eh
  rcases e2 with ⟨x, rfl⟩ | ⟨x, rfl⟩
  · rw [if_pos x]
  · rw [if_neg x]
def q_cpHead (m : ZM) (w v : Nat) : ZM :=
  let m1 := zs m (8, w, 0) 1 (m (8, v, 0) 1)
  zs m1 (8, w, 0) 2 (m1 (8, v, 0) 2)
def q_cpLots (w v f : Nat) (m : ZM) : Nat → ZM
  | 0 => m
  | k + 1 => q_copyLot (q_cpLots w v f m k) w ((f + k) % 30) v ((f + k) % 30)
def q_copyHopper (m : ZM) (w v f c : Nat) : ZM := q_cpLots w v f (q_cpHead m w v) c
theorem q_copyLot_k {m : ZM} {w j v i : Nat} {k : ZN} (h : k.1 ≠ 7) (h2 : k.1 ≠ 10) : q_copyLot m w j v i k = m k := by
  unfold q_copyLot
  rw [zs_k h2, q_become_k h]
theorem q_cpLots_k {w v f n : Nat} {m : ZM} {k : ZN} (h : k.1 ≠ 7) (h2 : k.1 ≠ 10) : q_cpLots w v f m n k = m k := by
  induction n with
  | zero => rfl
  | succ n ih => rw [q_cpLots, q_copyLot_k h h2, ih]
theorem z8_ne {w v : Nat} (h : w ≠ v) : ((8, v, 0) : ZN) ≠ (8, w, 0) := fun e => h (by injection e with _ e2; injection e2 with e3; exact e3.symm)
theorem q_cpHead_w {m : ZM} {w v : Nat} (h : w ≠ v) : q_cpHead m w v (8, w, 0) 1 = m (8, v, 0) 1 ∧ q_cpHead m w v (8, w, 0) 2 = m (8, v, 0) 2 := by
  unfold q_cpHead
  refine ⟨?_, ?_⟩
  · rw [zs_ej (by decide), zs_eq rfl]
  · rw [zs_eq rfl, zs_ne (z8_ne h)]
theorem q_cpHead_v {m : ZM} {w v : Nat} (h : w ≠ v) : q_cpHead m w v (8, v, 0) 1 = m (8, v, 0) 1 := by
  unfold q_cpHead
  rw [zs_ne (z8_ne h), zs_ne (z8_ne h)]

set_option maxHeartbeats 4000000 in
set_option maxRecDepth 100000 in
theorem c_J9_floorMod_7cf53 (l : Launch) (D : va_G) (cy : Nat → ClassId) (ad : ZN → Nat) (m : ZM) (sz : Nat) {L : List ZN} (x y : Int32) (gy : ¬ y = 0) : Met l yJ9_floorMod_7cf53 (zws yJ9_floorMod_7cf53 cJ9_floorMod_7cf53 3 (some .int)) ({ frames := 0, cells := 0, slots := 0, locals := 0 } : Room) (zPc D cy ad L m sz [.int x, .int y]) (zQi (fun r m1 => r = q_fmod x y ∧ m1 = m) D cy ad L sz) 0 0 (zA ad L sz) := by
  refine zopen (Qc := fun sz => zQi (fun r m1 => r = q_fmod x y ∧ m1 = m) D cy ad L sz) RJ9 (by decide +kernel) rfl (Nat.le_of_ble_eq_true rfl) ?_
  intro p e s mi below meth c ls C hr hlocks hml hl H locs hw
  obtain ⟨hx, hb, hts, hown, hK, hNw⟩ := id C
  have hl : lv_has ls 3 [(0, .int x), (1, .int y)] := hl
  refine lv_iload_n hx hb dJ9_floorMod_7cf53_0 rfl (lv_at hl 0 rfl) ?_
  refine lv_iload_n hx hb dJ9_floorMod_7cf53_1 rfl (lv_at hl 1 rfl) ?_
  refine lv_irem hx hb dJ9_floorMod_7cf53_2 gy ?_
  refine lv_topi (fun x1 ex1 => ?_)
  refine lv_istore_n (lv' := [(2, .int x1), (0, .int x), (1, .int y)]) hx hb dJ9_floorMod_7cf53_3 rfl hl (by decide) rfl (fun ls hl => ?_)
  refine lv_iload_n hx hb dJ9_floorMod_7cf53_4 rfl (lv_at hl 1 rfl) ?_
  refine lv_iload_n hx hb dJ9_floorMod_7cf53_5 rfl (lv_at hl 2 rfl) ?_
  refine lv_ixor hx hb dJ9_floorMod_7cf53_6 ?_
  refine lv_if_ge (tgt := 18) hx hb dJ9_floorMod_7cf53_7 (by decide) (fun c7_2 => ?_) (fun c7_2 => ?_)
  · skip
    refine lv_iload_n hx hb dJ9_floorMod_7cf53_18 rfl (lv_at hl 0 rfl) ?_
    exact zret_i C hr hlocks hw dJ9_floorMod_7cf53_19 ⟨(by first | rfl | exact (if_pos c7_2).symm | (subst_vars; first | rfl | exact (if_pos c7_2).symm)), (by first | rfl | exact (if_pos c7_2).symm | (subst_vars; first | rfl | exact (if_pos c7_2).symm))⟩
  · skip
    refine lv_iload_n hx hb dJ9_floorMod_7cf53_10 rfl (lv_at hl 0 rfl) ?_
    refine lv_if_eq (tgt := 18) hx hb dJ9_floorMod_7cf53_11 (by decide) (fun c11_3 => ?_) (fun c11_3 => ?_)
    · skip
      refine lv_iload_n hx hb dJ9_floorMod_7cf53_18 rfl (lv_at hl 0 rfl) ?_
      exact zret_i C hr hlocks hw dJ9_floorMod_7cf53_19 ⟨(by first | rfl | exact ((if_neg c7_2).trans (if_pos c11_3)).symm | exact (if_pos c11_3).symm | (subst_vars; first | rfl | exact ((if_neg c7_2).trans (if_pos c11_3)).symm | exact (if_pos c11_3).symm)), (by first | rfl | exact ((if_neg c7_2).trans (if_pos c11_3)).symm | exact (if_pos c11_3).symm | (subst_vars; first | rfl | exact ((if_neg c7_2).trans (if_pos c11_3)).symm | exact (if_pos c11_3).symm))⟩
    · skip
      refine lv_iload_n hx hb dJ9_floorMod_7cf53_14 rfl (lv_at hl 0 rfl) ?_
      refine lv_iload_n hx hb dJ9_floorMod_7cf53_15 rfl (lv_at hl 2 rfl) ?_
      refine lv_iadd hx hb dJ9_floorMod_7cf53_16 ?_
      exact zret_i C hr hlocks hw dJ9_floorMod_7cf53_17 ⟨(by first | rfl | exact ((if_neg c7_2).trans (if_neg c11_3)).symm | exact (if_neg c11_3).symm | (subst_vars; first | rfl | exact ((if_neg c7_2).trans (if_neg c11_3)).symm | exact (if_neg c11_3).symm)), (by first | rfl | exact ((if_neg c7_2).trans (if_neg c11_3)).symm | exact (if_neg c11_3).symm | (subst_vars; first | rfl | exact ((if_neg c7_2).trans (if_neg c11_3)).symm | exact (if_neg c11_3).symm))⟩

set_option maxHeartbeats 4000000 in
set_option maxRecDepth 100000 in
theorem c_X1_lotAt (l : Launch) (D : va_G) (cy : Nat → ClassId) (ad : ZN → Nat) (m : ZM) (sz : Nat) {L : List ZN} (hL : zL L) {w f : Nat} (gw : w < 2) (hf : m (8, w, 0) 1 = nI f) (lf : f < 30) (i : Nat) (li : i ≤ 30) : Met l yX1_lotAt (zws yX1_lotAt cX1_lotAt 2 (some (.object "StampWorks$Lot"))) ({ frames := 1, cells := 0, slots := 0, locals := 22 } : Room) (zPc D cy ad L m sz [.ref (ad (8, w, 0)), .int (nI i)]) (zQr (fun a m1 => a = ad (10, w, (f + i) % 30) ∧ m1 = m) D cy ad L sz) 0 0 (zA ad L sz) := by
  refine zopen (Qc := fun sz => zQr (fun a m1 => a = ad (10, w, (f + i) % 30) ∧ m1 = m) D cy ad L sz) RX1 (plainFor_of_name (by decide)) rfl (Nat.le_of_ble_eq_true rfl) ?_
  intro p e s mi below meth c ls C hr hlocks hml hl H locs hw
  obtain ⟨hx, hb, hts, hown, hK, hNw⟩ := id C
  have hl : lv_has ls 2 [(0, .ref (ad (8, w, 0))), (1, .int (nI i))] := hl
  refine lv_aload_n hx hb dX1_lotAt_0 rfl (lv_at hl 0 rfl) ?_
  refine zg_X1_11 C hw (zn8 hL gw) dX1_lotAt_1 ?_
  refine lv_aload_n hx hb dX1_lotAt_4 rfl (lv_at hl 0 rfl) ?_
  refine zg_X1_18 C hw (zn8 hL gw) dX1_lotAt_5 ?_
  refine ztop hf ?_
  refine lv_iload_n hx hb dX1_lotAt_8 rfl (lv_at hl 1 rfl) ?_
  refine lv_iadd hx hb dX1_lotAt_9 ?_
  refine lv_bipush (v := 30) hx hb dX1_lotAt_10 (by decide) ?_
  rw [show ((nI f) + (nI i)) = nI (f + i) from (zadd rfl rfl)]
  refine zafter_i C hw (zrunS (rest := [.ref (ad (9, w, 0))]) C hml hl.1 hw (c_J9_floorMod_7cf53 l D cy ad m H.size (nI (f + i)) 30 (by decide)) zv_X1_22 rfl rfl rfl ⟨Nat.le_of_ble_eq_true rfl, Nat.le_of_ble_eq_true rfl⟩ rfl (Nat.le_of_ble_eq_true rfl) dX1_lotAt_12 ⟨Nat.zero_le _, Nat.zero_le _⟩) (fun r3 m2 H locs h1 hw => ?_)
  obtain ⟨er3, h1⟩ := h1
  rw [h1] at hw
  clear h1 m2
  refine ztop (er3.trans (q_fmodN (a := (f + i)) (d := 30) (by omega) (by decide) (by decide))) ?_
  refine zald_9N C hw (zn9 hL gw) ((f + i) % 30) (Nat.mod_lt _ (by decide)) rfl dX1_lotAt_15 ?_
  exact zret_r C hr hlocks hw dX1_lotAt_16 ⟨rfl, rfl⟩

set_option maxHeartbeats 4000000 in
set_option maxRecDepth 100000 in
theorem c_X2_tellOfLot (l : Launch) (D : va_G) (cy : Nat → ClassId) (ad : ZN → Nat) (m : ZM) (sz : Nat) {L : List ZN} (hL : zL L) {w j : Nat} (gw : w < 2) (gj : j < 30) (k : Int32) : Met l yX2_tellOfLot (zws yX2_tellOfLot cX2_tellOfLot 2 (some .int)) ({ frames := 3, cells := 0, slots := 0, locals := 64 } : Room) (zPc D cy ad L m sz [.ref (ad (10, w, j)), .int k]) (zQi (fun r m1 => r = q_tellLot m w j k ∧ m1 = m) D cy ad L sz) 0 0 (zA ad L sz) := by
  refine zopen (Qc := fun sz => zQi (fun r m1 => r = q_tellLot m w j k ∧ m1 = m) D cy ad L sz) RX2 (plainFor_of_name (by decide)) rfl (Nat.le_of_ble_eq_true rfl) ?_
  intro p e s mi below meth c ls C hr hlocks hml hl H locs hw
  obtain ⟨hx, hb, hts, hown, hK, hNw⟩ := id C
  have hl : lv_has ls 2 [(0, .ref (ad (10, w, j))), (1, .int k)] := hl
  refine lv_iload_n hx hb dX2_tellOfLot_0 rfl (lv_at hl 1 rfl) ?_
  refine lv_iconst (v := 2) hx hb dX2_tellOfLot_1 (by decide) ?_
  refine lv_icmp_ne (tgt := 12) hx hb dX2_tellOfLot_2 (by decide) (fun c2_1 => ?_) (fun c2_1 => ?_)
  · skip
    refine lv_aload_n hx hb dX2_tellOfLot_12 rfl (lv_at hl 0 rfl) ?_
    refine zg_X2_10 C hw (zn10 hL gw (by omega)) dX2_tellOfLot_13 ?_
    refine lv_iload_n hx hb dX2_tellOfLot_16 rfl (lv_at hl 1 rfl) ?_
    refine zafter_i C hw (zrunV (rest := []) C hml hl.1 hw (zn7 hL gw (by omega)) rfl rfl (c_X3_tellOfOre l D cy ad m H.size hL gw (by omega) k) zv_X2_20 rfl rfl rfl ⟨Nat.le_of_ble_eq_true rfl, Nat.le_of_ble_eq_true rfl⟩ rfl (Nat.le_of_ble_eq_true rfl) dX2_tellOfLot_17 ⟨Nat.zero_le _, Nat.zero_le _⟩) (fun r4 m3 H locs h2 hw => ?_)
    obtain ⟨er4, h2⟩ := h2
    rw [h2] at hw
    clear h2 m3
    exact zret_i C hr hlocks hw dX2_tellOfLot_20 ⟨(by first | rfl | exact (if_neg c2_1).symm | (subst_vars; first | rfl | exact (if_neg c2_1).symm)), (by first | rfl | exact (if_neg c2_1).symm | (subst_vars; first | rfl | exact (if_neg c2_1).symm))⟩
  · skip
    refine lv_aload_n hx hb dX2_tellOfLot_5 rfl (lv_at hl 0 rfl) ?_
    refine zg_X2_16 C hw (zn10 hL gw (by omega)) dX2_tellOfLot_6 ?_
    refine lv_goto (tgt := 20) hx hb dX2_tellOfLot_9 (by decide) ?_
    exact zret_i C hr hlocks hw dX2_tellOfLot_20 ⟨(by first | rfl | exact (if_pos c2_1).symm | (subst_vars; first | rfl | exact (if_pos c2_1).symm)), (by first | rfl | exact (if_pos c2_1).symm | (subst_vars; first | rfl | exact (if_pos c2_1).symm))⟩

set_option maxHeartbeats 4000000 in
set_option maxRecDepth 100000 in
theorem c_X2_copyLot (l : Launch) (D : va_G) (cy : Nat → ClassId) (ad : ZN → Nat) (m : ZM) (sz : Nat) {L : List ZN} (hL : zL L) {w j v i : Nat} (gw : w < 2) (gj : j < 30) (gv : v < 2) (gi : i < 30) : Met l yX2_copyLot (zws yX2_copyLot cX2_copyLot 2 none) ({ frames := 2, cells := 0, slots := 0, locals := 43 } : Room) (zPc D cy ad L m sz [.ref (ad (10, w, j)), .ref (ad (10, v, i))]) (zQv (fun m1 => m1 = q_copyLot m w j v i) D cy ad L sz) 0 0 (zA ad L sz) := by
  refine zopen (Qc := fun sz => zQv (fun m1 => m1 = q_copyLot m w j v i) D cy ad L sz) RX2 (plainFor_of_name (by decide)) rfl (Nat.le_of_ble_eq_true rfl) ?_
  intro p e s mi below meth c ls C hr hlocks hml hl H locs hw
  obtain ⟨hx, hb, hts, hown, hK, hNw⟩ := id C
  have hl : lv_has ls 2 [(0, .ref (ad (10, w, j))), (1, .ref (ad (10, v, i)))] := hl
  refine lv_aload_n hx hb dX2_copyLot_0 rfl (lv_at hl 0 rfl) ?_
  refine zg_X2_10 C hw (zn10 hL gw (by omega)) dX2_copyLot_1 ?_
  refine lv_aload_n hx hb dX2_copyLot_4 rfl (lv_at hl 1 rfl) ?_
  refine zg_X2_10 C hw (zn10 hL gv (by omega)) dX2_copyLot_5 ?_
  refine zafter_v C hw (zrunV (rest := []) C hml hl.1 hw (zn7 hL gw (by omega)) rfl rfl (c_X3_copyOre l D cy ad m H.size hL gw (by omega) gv (by omega)) zv_X2_24 rfl rfl rfl ⟨Nat.le_of_ble_eq_true rfl, Nat.le_of_ble_eq_true rfl⟩ rfl (Nat.le_of_ble_eq_true rfl) dX2_copyLot_8 ⟨Nat.zero_le _, Nat.zero_le _⟩) (fun m2 H locs h1 hw => ?_)
  have em2 := h1
  refine lv_aload_n hx hb dX2_copyLot_11 rfl (lv_at hl 0 rfl) ?_
  refine lv_aload_n hx hb dX2_copyLot_12 rfl (lv_at hl 1 rfl) ?_
  refine zg_X2_16 C hw (zn10 hL gv (by omega)) dX2_copyLot_13 ?_
  refine zp_X2_16 C hw (zn10 hL gw (by omega)) dX2_copyLot_16 (fun H locs m4 em4 hw => ?_)
  exact zret_v C hr hlocks hw dX2_copyLot_19 (by first | rfl | (subst_vars; first | rfl))

set_option maxHeartbeats 4000000 in
set_option maxRecDepth 100000 in
theorem c_X1_addLot (l : Launch) (D : va_G) (cy : Nat → ClassId) (ad : ZN → Nat) (m : ZM) (sz : Nat) {L : List ZN} (hL : zL L) {w f cn : Nat} (gw : w < 2) (hf : m (8, w, 0) 1 = nI f) (lf : f < 30) (hc : m (8, w, 0) 2 = nI cn) (lc : cn ≤ 30) (a b h : Int32) : Met l yX1_addLot (zws yX1_addLot cX1_addLot 5 none) ({ frames := 2, cells := 0, slots := 0, locals := 43 } : Room) (zPc D cy ad L m sz [.ref (ad (8, w, 0)), .int a, .int b, .int h]) (zQv (fun m1 => m1 = q_addLot m w ((f + cn) % 30) a b h) D cy ad L sz) 0 0 (zA ad L sz) := by
  refine zopen (Qc := fun sz => zQv (fun m1 => m1 = q_addLot m w ((f + cn) % 30) a b h) D cy ad L sz) RX1 (plainFor_of_name (by decide)) rfl (Nat.le_of_ble_eq_true rfl) ?_
  intro p e s mi below meth c ls C hr hlocks hml hl H locs hw
  obtain ⟨hx, hb, hts, hown, hK, hNw⟩ := id C
  have hl : lv_has ls 5 [(0, .ref (ad (8, w, 0))), (1, .int a), (2, .int b), (3, .int h)] := hl
  refine lv_aload_n hx hb dX1_addLot_0 rfl (lv_at hl 0 rfl) ?_
  refine lv_aload_n hx hb dX1_addLot_1 rfl (lv_at hl 0 rfl) ?_
  refine zg_X1_28 C hw (zn8 hL gw) dX1_addLot_2 ?_
  refine ztop hc ?_
  refine zafter_r C hw (zrunV (rest := []) C hml hl.1 hw (zn8 hL gw) rfl rfl (c_X1_lotAt l D cy ad m H.size hL gw hf lf cn (by omega)) zv_X1_31 rfl rfl rfl ⟨Nat.le_of_ble_eq_true rfl, Nat.le_of_ble_eq_true rfl⟩ rfl (Nat.le_of_ble_eq_true rfl) dX1_addLot_5 ⟨Nat.zero_le _, Nat.zero_le _⟩) (fun r3 m2 H locs h1 hw => ?_)
  obtain ⟨er3, h1⟩ := h1
  rw [h1] at hw
  clear h1 m2
  subst er3
  have lj : (f + cn) % 30 < 30 := Nat.mod_lt _ (by decide)
  refine lv_astore (lv' := [(4, .ref (ad (10, w, ((f + cn) % 30)))), (0, .ref (ad (8, w, 0))), (1, .int a), (2, .int b), (3, .int h)]) hx hb dX1_addLot_8 hl (by decide) rfl (fun ls hl => ?_)
  refine lv_aload hx hb dX1_addLot_10 (lv_at hl 0 rfl) ?_
  refine zg_X1_35 C hw (zn10 hL gw (Nat.mod_lt _ (by decide))) dX1_addLot_12 ?_
  refine lv_iload_n hx hb dX1_addLot_15 rfl (lv_at hl 2 rfl) ?_
  refine lv_iload_n hx hb dX1_addLot_16 rfl (lv_at hl 3 rfl) ?_
  refine zafter_v C hw (zrunV (rest := []) C hml hl.1 hw (zn7 hL gw (by omega)) rfl rfl (c_X3_become l D cy ad m H.size hL gw (by omega) a b) zv_X1_39 rfl rfl rfl ⟨Nat.le_of_ble_eq_true rfl, Nat.le_of_ble_eq_true rfl⟩ rfl (Nat.le_of_ble_eq_true rfl) dX1_addLot_17 ⟨Nat.zero_le _, Nat.zero_le _⟩) (fun m5 H locs h4 hw => ?_)
  have em5 := h4
  refine lv_aload hx hb dX1_addLot_20 (lv_at hl 0 rfl) ?_
  refine lv_iload_n hx hb dX1_addLot_22 rfl (lv_at hl 4 rfl) ?_
  refine zp_X1_45 C hw (zn10 hL gw (Nat.mod_lt _ (by decide))) dX1_addLot_23 (fun H locs m7 em7 hw => ?_)
  refine lv_aload_n hx hb dX1_addLot_26 rfl (lv_at hl 1 rfl) ?_
  refine lv_dup hx hb dX1_addLot_27 rfl ?_
  refine zg_X1_28 C hw (zn8 hL gw) dX1_addLot_28 ?_
  refine lv_iconst (v := 1) hx hb dX1_addLot_31 (by decide) ?_
  refine lv_iadd hx hb dX1_addLot_32 ?_
  refine zp_X1_28 C hw (zn8 hL gw) dX1_addLot_33 (fun H locs m8 em8 hw => ?_)
  exact zret_v C hr hlocks hw dX1_addLot_36 (by first | rfl | (subst_vars; first | rfl))

set_option maxHeartbeats 4000000 in
set_option maxRecDepth 100000 in
theorem c_X1_dropFirst (l : Launch) (D : va_G) (cy : Nat → ClassId) (ad : ZN → Nat) (m : ZM) (sz : Nat) {L : List ZN} (hL : zL L) {w : Nat} (gw : w < 2) : Met l yX1_dropFirst (zws yX1_dropFirst cX1_dropFirst 1 none) ({ frames := 1, cells := 0, slots := 0, locals := 22 } : Room) (zPc D cy ad L m sz [.ref (ad (8, w, 0))]) (zQv (fun m1 => m1 = q_dropFirst m w) D cy ad L sz) 0 0 (zA ad L sz) := by
  refine zopen (Qc := fun sz => zQv (fun m1 => m1 = q_dropFirst m w) D cy ad L sz) RX1 (plainFor_of_name (by decide)) rfl (Nat.le_of_ble_eq_true rfl) ?_
  intro p e s mi below meth c ls C hr hlocks hml hl H locs hw
  obtain ⟨hx, hb, hts, hown, hK, hNw⟩ := id C
  have hl : lv_has ls 1 [(0, .ref (ad (8, w, 0)))] := hl
  refine lv_aload_n hx hb dX1_dropFirst_0 rfl (lv_at hl 0 rfl) ?_
  refine lv_aload_n hx hb dX1_dropFirst_1 rfl (lv_at hl 0 rfl) ?_
  refine zg_X1_18 C hw (zn8 hL gw) dX1_dropFirst_2 ?_
  refine lv_iconst (v := 1) hx hb dX1_dropFirst_5 (by decide) ?_
  refine lv_iadd hx hb dX1_dropFirst_6 ?_
  refine lv_bipush (v := 30) hx hb dX1_dropFirst_7 (by decide) ?_
  refine zafter_i C hw (zrunS (rest := [.ref (ad (8, w, 0))]) C hml hl.1 hw (c_J9_floorMod_7cf53 l D cy ad m H.size (m (8, w, 0) 1 + 1) 30 (by decide)) zv_X1_22 rfl rfl rfl ⟨Nat.le_of_ble_eq_true rfl, Nat.le_of_ble_eq_true rfl⟩ rfl (Nat.le_of_ble_eq_true rfl) dX1_dropFirst_9 ⟨Nat.zero_le _, Nat.zero_le _⟩) (fun r3 m2 H locs h1 hw => ?_)
  obtain ⟨er3, h1⟩ := h1
  rw [h1] at hw
  clear h1 m2
  refine zp_X1_18 C hw (zn8 hL gw) dX1_dropFirst_12 (fun H locs m4 em4 hw => ?_)
  refine lv_aload_n hx hb dX1_dropFirst_15 rfl (lv_at hl 0 rfl) ?_
  refine lv_dup hx hb dX1_dropFirst_16 rfl ?_
  refine zg_X1_28 C hw (zn8 hL gw) dX1_dropFirst_17 ?_
  refine lv_iconst (v := 1) hx hb dX1_dropFirst_20 (by decide) ?_
  refine lv_isub hx hb dX1_dropFirst_21 ?_
  refine zp_X1_28 C hw (zn8 hL gw) dX1_dropFirst_22 (fun H locs m5 em5 hw => ?_)
  exact zret_v C hr hlocks hw dX1_dropFirst_25 (by first | rfl | (subst_vars; first | rfl))

set_option maxHeartbeats 4000000 in
set_option maxRecDepth 100000 in
theorem c_X1_oreOfLots (l : Launch) (D : va_G) (cy : Nat → ClassId) (ad : ZN → Nat) (m : ZM) (sz : Nat) {L : List ZN} (hL : zL L) {w f cn : Nat} (gw : w < 2) (hf : m (8, w, 0) 1 = nI f) (lf : f < 30) (hc : m (8, w, 0) 2 = nI cn) (lc : cn ≤ 30) : Met l yX1_oreOfLots (zws yX1_oreOfLots cX1_oreOfLots 3 (some .int)) ({ frames := 2, cells := 0, slots := 0, locals := 43 } : Room) (zPc D cy ad L m sz [.ref (ad (8, w, 0))]) (zQi (fun r m1 => r = q_oreLots m w f cn ∧ m1 = m) D cy ad L sz) 0 0 (zA ad L sz) := by
  refine zopen (Qc := fun sz => zQi (fun r m1 => r = q_oreLots m w f cn ∧ m1 = m) D cy ad L sz) RX1 (plainFor_of_name (by decide)) rfl (Nat.le_of_ble_eq_true rfl) ?_
  intro p e s mi below meth c ls C hr hlocks hml hl H locs hw
  obtain ⟨hx, hb, hts, hown, hK, hNw⟩ := id C
  have hl : lv_has ls 3 [(0, .ref (ad (8, w, 0)))] := hl
  refine lv_iconst (v := 0) hx hb dX1_oreOfLots_0 (by decide) ?_
  refine lv_istore_n (lv' := [(1, .int 0), (0, .ref (ad (8, w, 0)))]) hx hb dX1_oreOfLots_1 rfl hl (by decide) rfl (fun ls hl => ?_)
  refine lv_iconst (v := 0) hx hb dX1_oreOfLots_2 (by decide) ?_
  refine lv_istore_n (lv' := [(2, .int 0), (1, .int 0), (0, .ref (ad (8, w, 0)))]) hx hb dX1_oreOfLots_3 rfl hl (by decide) rfl (fun ls hl => ?_)
  have loop4 : ∀ (z : Nat) (k : Nat) (x : Int32) (H : Heap) (locs : List Loc) (ls : Array Slot), cn - k = z → (k ≤ cn) → (x = q_oreLots m w f k) → zH D cy ad L s.heap H locs m → lv_has ls 3 [(0, .ref (ad (8, w, 0))), (1, .int x), (2, .int (nI k))] → W p l e ({ frames := 2, cells := 0, slots := 0, locals := 43 } : Room) s mi [.ref (ad (8, w, 0))].toArray below meth c H locs 0 0 (MQ below (zQi (fun r m1 => r = q_oreLots m w f cn ∧ m1 = m) D cy ad L s.heap.size) [.ref (ad (8, w, 0))].toArray s 0 0 (zA ad L s.heap.size)) (F0 mi 4 ls []) := by
    intro z
    induction z using Nat.strongRecOn with
    | _ z ih4 =>
    intro k x H locs ls hz4 i4_1 i4_2 hw hl
    refine lv_iload_n hx hb dX1_oreOfLots_4 rfl (lv_at hl 2 rfl) ?_
    refine lv_aload_n hx hb dX1_oreOfLots_5 rfl (lv_at hl 0 rfl) ?_
    refine zg_X1_28 C hw (zn8 hL gw) dX1_oreOfLots_6 ?_
    refine ztop hc ?_
    refine lv_icmp_ge (tgt := 32) hx hb dX1_oreOfLots_9 (by decide) (fun c9_1 => ?_) (fun c9_1 => ?_)
    · skip
      have n2 := zle c9_1 (a := cn) (b := k) rfl rfl (by omega) (by omega)
      refine lv_iload_n hx hb dX1_oreOfLots_32 rfl (lv_at hl 1 rfl) ?_
      exact zret_i C hr hlocks hw dX1_oreOfLots_33 ⟨by rw [i4_2, show k = cn by omega], rfl⟩
    · skip
      have n3 := znle c9_1 (a := cn) (b := k) rfl rfl (by omega) (by omega)
      refine lv_iload_n hx hb dX1_oreOfLots_12 rfl (lv_at hl 1 rfl) ?_
      refine lv_aload_n hx hb dX1_oreOfLots_13 rfl (lv_at hl 0 rfl) ?_
      refine lv_iload_n hx hb dX1_oreOfLots_14 rfl (lv_at hl 2 rfl) ?_
      refine zafter_r C hw (zrunV (rest := [.int x]) C hml hl.1 hw (zn8 hL gw) rfl rfl (c_X1_lotAt l D cy ad m H.size hL gw hf lf k (by omega)) zv_X1_31 rfl rfl rfl ⟨Nat.le_of_ble_eq_true rfl, Nat.le_of_ble_eq_true rfl⟩ rfl (Nat.le_of_ble_eq_true rfl) dX1_oreOfLots_15 ⟨Nat.zero_le _, Nat.zero_le _⟩) (fun r6 m5 H locs h4 hw => ?_)
      obtain ⟨er6, h4⟩ := h4
      rw [h4] at hw
      clear h4 m5
      subst er6
      have lj : (f + k) % 30 < 30 := Nat.mod_lt _ (by decide)
      refine zg_X1_35 C hw (zn10 hL gw (Nat.mod_lt _ (by decide))) dX1_oreOfLots_18 ?_
      refine zafter_i C hw (zrunV (rest := [.int x]) C hml hl.1 hw (zn7 hL gw (by omega)) rfl rfl (c_X3_whole l D cy ad m H.size hL gw (by omega)) zv_X1_48 rfl rfl rfl ⟨Nat.le_of_ble_eq_true rfl, Nat.le_of_ble_eq_true rfl⟩ rfl (Nat.le_of_ble_eq_true rfl) dX1_oreOfLots_21 ⟨Nat.zero_le _, Nat.zero_le _⟩) (fun r9 m8 H locs h7 hw => ?_)
      obtain ⟨er9, h7⟩ := h7
      rw [h7] at hw
      clear h7 m8
      refine lv_iadd hx hb dX1_oreOfLots_24 ?_
      refine lv_topi (fun x10 ex10 => ?_)
      refine lv_istore_n (lv' := [(1, .int x10), (0, .ref (ad (8, w, 0))), (2, .int (nI k))]) hx hb dX1_oreOfLots_25 rfl hl (by decide) rfl (fun ls hl => ?_)
      refine lv_iinc (v := (nI (k + 1))) (lv' := [(2, .int (nI (k + 1))), (1, .int x10), (0, .ref (ad (8, w, 0)))]) hx hb dX1_oreOfLots_26 hl (k := 2) rfl (nI_1 k) (by decide) rfl (fun ls hl => ?_)
      refine lv_goto (tgt := 4) hx hb dX1_oreOfLots_29 (by decide) ?_
      exact ih4 _ (by omega) (k + 1) x10 _ _ _ rfl (by omega) (by rw [ex10, i4_2, er9]; rfl) hw (lv_sub hl [2, 1, 0] rfl)
  exact loop4 _ 0 0 _ _ _ rfl (Nat.zero_le _) rfl hw (lv_sub hl [2, 1, 0] rfl)

set_option maxHeartbeats 4000000 in
set_option maxRecDepth 100000 in
theorem c_X1_feedInto (l : Launch) (D : va_G) (cy : Nat → ClassId) (ad : ZN → Nat) (m : ZM) (sz : Nat) {L : List ZN} (hL : zL L) {w f v u : Nat} (gw : w < 2) (hf : m (8, w, 0) 1 = nI f) (lf : f < 30) (gv : v < 2) (gu : u < 47) (a h : Int32) : Met l yX1_feedInto (zws yX1_feedInto cX1_feedInto 8 (some .int)) ({ frames := 2, cells := 0, slots := 0, locals := 46 } : Room) (zPc D cy ad L m sz [.ref (ad (8, w, 0)), .ref (ad (7, v, u)), .int a, .int h]) (zQi (fun r m1 => r = (q_feed w (7, v, u) 30 m a h).2 ∧ m1 = (q_feed w (7, v, u) 30 m a h).1) D cy ad L sz) 0 0 (zA ad L sz) := by
  refine zopen (Qc := fun sz => zQi (fun r m1 => r = (q_feed w (7, v, u) 30 m a h).2 ∧ m1 = (q_feed w (7, v, u) 30 m a h).1) D cy ad L sz) RX1 (plainFor_of_name (by decide)) rfl (Nat.le_of_ble_eq_true rfl) ?_
  intro p e s mi below meth c ls C hr hlocks hml hl H locs hw
  obtain ⟨hx, hb, hts, hown, hK, hNw⟩ := id C
  have hl : lv_has ls 8 [(0, .ref (ad (8, w, 0))), (1, .ref (ad (7, v, u))), (2, .int a), (3, .int h)] := hl
  refine lv_iload_n hx hb dX1_feedInto_0 rfl (lv_at hl 3 rfl) ?_
  refine lv_istore (lv' := [(4, .int h), (0, .ref (ad (8, w, 0))), (1, .ref (ad (7, v, u))), (2, .int a), (3, .int h)]) hx hb dX1_feedInto_1 hl (by decide) rfl (fun ls hl => ?_)
  refine lv_iload_n hx hb dX1_feedInto_3 rfl (lv_at hl 3 rfl) ?_
  refine lv_istore (lv' := [(5, .int a), (4, .int h), (0, .ref (ad (8, w, 0))), (1, .ref (ad (7, v, u))), (2, .int a), (3, .int h)]) hx hb dX1_feedInto_4 hl (by decide) rfl (fun ls hl => ?_)
  refine lv_iconst (v := 0) hx hb dX1_feedInto_6 (by decide) ?_
  refine lv_istore (lv' := [(6, .int 0), (5, .int a), (4, .int h), (0, .ref (ad (8, w, 0))), (1, .ref (ad (7, v, u))), (2, .int a), (3, .int h)]) hx hb dX1_feedInto_7 hl (by decide) rfl (fun ls hl => ?_)
  have loop9 : ∀ (z : Nat) (k g : Nat) (x4 x5 : Int32) (m0 : ZM) (H : Heap) (locs : List Loc) (ls : Array Slot), 30 - k = z → (q_feed w (7, v, u) (30 - k) m0 x5 x4 = q_feed w (7, v, u) 30 m a h) → (m0 (8, w, 0) 1 = nI g) → (g < 30) → (k ≤ 30) → zH D cy ad L s.heap H locs m0 → lv_has ls 8 [(0, .ref (ad (8, w, 0))), (1, .ref (ad (7, v, u))), (4, .int x4), (5, .int x5), (6, .int (nI k))] → W p l e ({ frames := 2, cells := 0, slots := 0, locals := 46 } : Room) s mi [.ref (ad (8, w, 0)), .ref (ad (7, v, u)), .int a, .int h].toArray below meth c H locs 0 0 (MQ below (zQi (fun r m1 => r = (q_feed w (7, v, u) 30 m a h).2 ∧ m1 = (q_feed w (7, v, u) 30 m a h).1) D cy ad L s.heap.size) [.ref (ad (8, w, 0)), .ref (ad (7, v, u)), .int a, .int h].toArray s 0 0 (zA ad L s.heap.size)) (F0 mi 9 ls []) := by
    intro z
    induction z using Nat.strongRecOn with
    | _ z ih9 =>
    intro k g x4 x5 m0 H locs ls hz9 i9_1 i9_2 i9_3 i9_4 hw hl
    refine lv_iload hx hb dX1_feedInto_9 (lv_at hl 4 rfl) ?_
    refine lv_bipush (v := 30) hx hb dX1_feedInto_11 (by decide) ?_
    refine lv_icmp_ge (tgt := 79) hx hb dX1_feedInto_13 (by decide) (fun c13_1 => ?_) (fun c13_1 => ?_)
    · skip
      have n2 := zle c13_1 (a := 30) (b := k) rfl rfl (by omega) (by omega)
      refine lv_iload hx hb dX1_feedInto_79 (lv_at hl 2 rfl) ?_
      exact zret_i C hr hlocks hw dX1_feedInto_81 ⟨by rw [← i9_1, show 30 - k = 0 by omega]; rfl, by rw [← i9_1, show 30 - k = 0 by omega]; rfl⟩
    · skip
      have n3 := znle c13_1 (a := 30) (b := k) rfl rfl (by omega) (by omega)
      refine lv_iload hx hb dX1_feedInto_16 (lv_at hl 3 rfl) ?_
      refine lv_if_le (tgt := 79) hx hb dX1_feedInto_18 (by decide) (fun c18_4 => ?_) (fun c18_4 => ?_)
      · skip
        refine lv_iload hx hb dX1_feedInto_79 (lv_at hl 2 rfl) ?_
        exact zret_i C hr hlocks hw dX1_feedInto_81 ⟨by rw [← i9_1, show 30 - k = (30 - (k + 1)) + 1 by omega, q_feed, if_pos c18_4], by rw [← i9_1, show 30 - k = (30 - (k + 1)) + 1 by omega, q_feed, if_pos c18_4]⟩
      · skip
        refine lv_aload_n hx hb dX1_feedInto_21 rfl (lv_at hl 0 rfl) ?_
        refine zg_X1_28 C hw (zn8 hL gw) dX1_feedInto_22 ?_
        refine lv_if_le (tgt := 79) hx hb dX1_feedInto_25 (by decide) (fun c25_5 => ?_) (fun c25_5 => ?_)
        · skip
          refine lv_iload hx hb dX1_feedInto_79 (lv_at hl 2 rfl) ?_
          exact zret_i C hr hlocks hw dX1_feedInto_81 ⟨by rw [← i9_1, show 30 - k = (30 - (k + 1)) + 1 by omega, q_feed, if_neg c18_4, if_pos c25_5], by rw [← i9_1, show 30 - k = (30 - (k + 1)) + 1 by omega, q_feed, if_neg c18_4, if_pos c25_5]⟩
        · skip
          refine lv_aload_n hx hb dX1_feedInto_28 rfl (lv_at hl 0 rfl) ?_
          refine lv_iconst (v := 0) hx hb dX1_feedInto_29 (by decide) ?_
          refine zafter_r C hw (zrunV (rest := []) C hml hl.1 hw (zn8 hL gw) rfl rfl (c_X1_lotAt l D cy ad m0 H.size hL gw i9_2 i9_3 0 (by omega)) zv_X1_31 rfl rfl rfl ⟨Nat.le_of_ble_eq_true rfl, Nat.le_of_ble_eq_true rfl⟩ rfl (Nat.le_of_ble_eq_true rfl) dX1_feedInto_30 ⟨Nat.zero_le _, Nat.zero_le _⟩) (fun r8 m7 H locs h6 hw => ?_)
          obtain ⟨er8, h6⟩ := h6
          rw [h6] at hw
          clear h6 m7
          subst er8
          refine ztopr (y := ad (10, w, g)) (by rw [Nat.add_zero, Nat.mod_eq_of_lt i9_3]) ?_
          have hj : (m0 (8, w, 0) 1).toNatClampNeg = g := by rw [i9_2]; exact nI_clamp (by omega)
          refine lv_astore (lv' := [(7, .ref (ad (10, w, g))), (0, .ref (ad (8, w, 0))), (1, .ref (ad (7, v, u))), (4, .int x4), (5, .int x5), (6, .int (nI k))]) hx hb dX1_feedInto_33 hl (by decide) rfl (fun ls hl => ?_)
          refine lv_iload hx hb dX1_feedInto_35 (lv_at hl 4 rfl) ?_
          refine lv_aload hx hb dX1_feedInto_37 (lv_at hl 0 rfl) ?_
          refine zg_X1_35 C hw (zn10 hL gw (by omega)) dX1_feedInto_39 ?_
          refine lv_aload_n hx hb dX1_feedInto_42 rfl (lv_at hl 2 rfl) ?_
          refine lv_iload hx hb dX1_feedInto_43 (lv_at hl 4 rfl) ?_
          refine zafter_i C hw (zrunV (rest := [.int x5]) C hml hl.1 hw (zn7 hL gw (by omega)) rfl rfl (c_X3_moveTo l D cy ad m0 H.size hL gw (by omega) gv gu x5) zv_X1_52 rfl rfl rfl ⟨Nat.le_of_ble_eq_true rfl, Nat.le_of_ble_eq_true rfl⟩ rfl (Nat.le_of_ble_eq_true rfl) dX1_feedInto_45 ⟨Nat.zero_le _, Nat.zero_le _⟩) (fun r11 m10 H locs h9 hw => ?_)
          obtain ⟨er11, em10⟩ := h9
          refine lv_isub hx hb dX1_feedInto_48 ?_
          refine lv_topi (fun x12 ex12 => ?_)
          refine lv_istore (lv' := [(5, .int x12), (7, .ref (ad (10, w, g))), (0, .ref (ad (8, w, 0))), (1, .ref (ad (7, v, u))), (4, .int x4), (6, .int (nI k))]) hx hb dX1_feedInto_49 hl (by decide) rfl (fun ls hl => ?_)
          refine lv_aload hx hb dX1_feedInto_51 (lv_at hl 1 rfl) ?_
          refine zg_X1_45 C hw (zn10 hL gw (by omega)) dX1_feedInto_53 ?_
          refine lv_topi (fun x13 ex13 => ?_)
          refine lv_istore (lv' := [(4, .int x13), (5, .int x12), (7, .ref (ad (10, w, g))), (0, .ref (ad (8, w, 0))), (1, .ref (ad (7, v, u))), (6, .int (nI k))]) hx hb dX1_feedInto_56 hl (by decide) rfl (fun ls hl => ?_)
          refine lv_aload hx hb dX1_feedInto_58 (lv_at hl 2 rfl) ?_
          refine zg_X1_35 C hw (zn10 hL gw (by omega)) dX1_feedInto_60 ?_
          refine zafter_i C hw (zrunV (rest := []) C hml hl.1 hw (zn7 hL gw (by omega)) rfl rfl (c_X3_whole l D cy ad m10 H.size hL gw (by omega)) zv_X1_48 rfl rfl rfl ⟨Nat.le_of_ble_eq_true rfl, Nat.le_of_ble_eq_true rfl⟩ rfl (Nat.le_of_ble_eq_true rfl) dX1_feedInto_63 ⟨Nat.zero_le _, Nat.zero_le _⟩) (fun r16 m15 H locs h14 hw => ?_)
          obtain ⟨er16, h14⟩ := h14
          rw [h14] at hw
          clear h14 m15
          refine lv_if_ne (tgt := 73) hx hb dX1_feedInto_66 (by decide) (fun c66_17 => ?_) (fun c66_17 => ?_)
          · skip
            refine lv_iinc (v := (nI (k + 1))) (lv' := [(6, .int (nI (k + 1))), (4, .int x13), (5, .int x12), (7, .ref (ad (10, w, g))), (0, .ref (ad (8, w, 0))), (1, .ref (ad (7, v, u)))]) hx hb dX1_feedInto_73 hl (k := 5) rfl (nI_1 k) (by decide) rfl (fun ls hl => ?_)
            refine lv_goto (tgt := 9) hx hb dX1_feedInto_76 (by decide) ?_
            exact ih9 _ (by omega) (k + 1) g x13 x12 m10 _ _ _ rfl (by rw [← i9_1, show 30 - k = (30 - (k + 1)) + 1 by omega]; exact (q_feed_go (by exact hj) c18_4 c25_5 er11 em10 ex12 ex13 (Or.inl ⟨by rw [← er16]; exact c66_17, rfl⟩)).symm) (by rw [em10, q_move_k (zk rfl) (zk rfl)]; exact i9_2) i9_3 (by omega) hw (lv_sub hl [4, 5, 1, 2, 0] rfl)
          · skip
            refine lv_aload_n hx hb dX1_feedInto_69 rfl (lv_at hl 3 rfl) ?_
            refine zafter_v C hw (zrunV (rest := []) C hml hl.1 hw (zn8 hL gw) rfl rfl (c_X1_dropFirst l D cy ad m10 H.size hL gw) zv_X1_56 rfl rfl rfl ⟨Nat.le_of_ble_eq_true rfl, Nat.le_of_ble_eq_true rfl⟩ rfl (Nat.le_of_ble_eq_true rfl) dX1_feedInto_70 ⟨Nat.zero_le _, Nat.zero_le _⟩) (fun m19 H locs h18 hw => ?_)
            have em19 := h18
            refine lv_iinc (v := (nI (k + 1))) (lv' := [(6, .int (nI (k + 1))), (4, .int x13), (5, .int x12), (7, .ref (ad (10, w, g))), (0, .ref (ad (8, w, 0))), (1, .ref (ad (7, v, u)))]) hx hb dX1_feedInto_73 hl (k := 5) rfl (nI_1 k) (by decide) rfl (fun ls hl => ?_)
            refine lv_goto (tgt := 9) hx hb dX1_feedInto_76 (by decide) ?_
            exact ih9 _ (by omega) (k + 1) ((g + 1) % 30) x13 x12 m19 _ _ _ rfl (by rw [← i9_1, show 30 - k = (30 - (k + 1)) + 1 by omega]; exact (q_feed_go (by exact hj) c18_4 c25_5 er11 em10 ex12 ex13 (Or.inr ⟨by rw [← er16]; exact fun z => z c66_17, em19⟩)).symm) (by rw [em19, q_dropFirst_1, em10, q_move_k (zk rfl) (zk rfl), i9_2, nI_1]; exact q_fmodN (a := g + 1) (d := 30) (by omega) (by decide) (by decide)) (Nat.mod_lt _ (by decide)) (by omega) hw (lv_sub hl [4, 5, 1, 2, 0] rfl)
  exact loop9 _ 0 f h a m _ _ _ rfl rfl hf lf (by omega) hw (lv_sub hl [3, 4, 2, 1, 0] rfl)

set_option maxHeartbeats 4000000 in
set_option maxRecDepth 100000 in
theorem c_X1_copyHopper (l : Launch) (D : va_G) (cy : Nat → ClassId) (ad : ZN → Nat) (m : ZM) (sz : Nat) {L : List ZN} (hL : zL L) {w v f cn : Nat} (gw : w < 2) (gv : v < 2) (nwv : w ≠ v) (hf : m (8, v, 0) 1 = nI f) (lf : f < 30) (hc : m (8, v, 0) 2 = nI cn) (lc : cn ≤ 30) : Met l yX1_copyHopper (zws yX1_copyHopper cX1_copyHopper 3 none) ({ frames := 3, cells := 0, slots := 0, locals := 64 } : Room) (zPc D cy ad L m sz [.ref (ad (8, w, 0)), .ref (ad (8, v, 0))]) (zQv (fun m1 => m1 = q_copyHopper m w v f cn) D cy ad L sz) 0 0 (zA ad L sz) := by
  refine zopen (Qc := fun sz => zQv (fun m1 => m1 = q_copyHopper m w v f cn) D cy ad L sz) RX1 (plainFor_of_name (by decide)) rfl (Nat.le_of_ble_eq_true rfl) ?_
  intro p e s mi below meth c ls C hr hlocks hml hl H locs hw
  obtain ⟨hx, hb, hts, hown, hK, hNw⟩ := id C
  have hl : lv_has ls 3 [(0, .ref (ad (8, w, 0))), (1, .ref (ad (8, v, 0)))] := hl
  refine lv_aload_n hx hb dX1_copyHopper_0 rfl (lv_at hl 0 rfl) ?_
  refine lv_aload_n hx hb dX1_copyHopper_1 rfl (lv_at hl 1 rfl) ?_
  refine zg_X1_18 C hw (zn8 hL gv) dX1_copyHopper_2 ?_
  refine zp_X1_18 C hw (zn8 hL gw) dX1_copyHopper_5 (fun H locs m1 em1 hw => ?_)
  refine lv_aload_n hx hb dX1_copyHopper_8 rfl (lv_at hl 0 rfl) ?_
  refine lv_aload_n hx hb dX1_copyHopper_9 rfl (lv_at hl 1 rfl) ?_
  refine zg_X1_28 C hw (zn8 hL gv) dX1_copyHopper_10 ?_
  refine zp_X1_28 C hw (zn8 hL gw) dX1_copyHopper_13 (fun H locs m2 em2 hw => ?_)
  refine lv_iconst (v := 0) hx hb dX1_copyHopper_16 (by decide) ?_
  refine lv_istore_n (lv' := [(2, .int 0), (0, .ref (ad (8, w, 0))), (1, .ref (ad (8, v, 0)))]) hx hb dX1_copyHopper_17 rfl hl (by decide) rfl (fun ls hl => ?_)
  have loop18 : ∀ (z : Nat) (k : Nat) (m0 : ZM) (H : Heap) (locs : List Loc) (ls : Array Slot), cn - k = z → (k ≤ cn) → (m0 = q_cpLots w v f (q_cpHead m w v) k) → zH D cy ad L s.heap H locs m0 → lv_has ls 3 [(0, .ref (ad (8, w, 0))), (1, .ref (ad (8, v, 0))), (2, .int (nI k))] → W p l e ({ frames := 3, cells := 0, slots := 0, locals := 64 } : Room) s mi [.ref (ad (8, w, 0)), .ref (ad (8, v, 0))].toArray below meth c H locs 0 0 (MQ below (zQv (fun m1 => m1 = q_copyHopper m w v f cn) D cy ad L s.heap.size) [.ref (ad (8, w, 0)), .ref (ad (8, v, 0))].toArray s 0 0 (zA ad L s.heap.size)) (F0 mi 18 ls []) := by
    intro z
    induction z using Nat.strongRecOn with
    | _ z ih18 =>
    intro k m0 H locs ls hz18 i18_1 i18_2 hw hl
    have h1 : m0 (8, w, 0) 1 = nI f := by rw [i18_2, q_cpLots_k (zk rfl) (zk rfl)]; exact (q_cpHead_w nwv).1.trans hf
    have h2 : m0 (8, w, 0) 2 = nI cn := by rw [i18_2, q_cpLots_k (zk rfl) (zk rfl)]; exact (q_cpHead_w nwv).2.trans hc
    have h3 : m0 (8, v, 0) 1 = nI f := by rw [i18_2, q_cpLots_k (zk rfl) (zk rfl)]; exact (q_cpHead_v nwv).trans hf
    refine lv_iload_n hx hb dX1_copyHopper_18 rfl (lv_at hl 2 rfl) ?_
    refine lv_aload_n hx hb dX1_copyHopper_19 rfl (lv_at hl 0 rfl) ?_
    refine zg_X1_28 C hw (zn8 hL gw) dX1_copyHopper_20 ?_
    refine ztop h2 ?_
    refine lv_icmp_ge (tgt := 45) hx hb dX1_copyHopper_23 (by decide) (fun c23_3 => ?_) (fun c23_3 => ?_)
    · skip
      have n4 := zle c23_3 (a := cn) (b := k) rfl rfl (by omega) (by omega)
      exact zret_v C hr hlocks hw dX1_copyHopper_45 (by rw [i18_2, show k = cn by omega]; rfl)
    · skip
      have n5 := znle c23_3 (a := cn) (b := k) rfl rfl (by omega) (by omega)
      refine lv_aload_n hx hb dX1_copyHopper_26 rfl (lv_at hl 0 rfl) ?_
      refine lv_iload_n hx hb dX1_copyHopper_27 rfl (lv_at hl 2 rfl) ?_
      refine zafter_r C hw (zrunV (rest := []) C hml hl.1 hw (zn8 hL gw) rfl rfl (c_X1_lotAt l D cy ad m0 H.size hL gw h1 lf k (by omega)) zv_X1_31 rfl rfl rfl ⟨Nat.le_of_ble_eq_true rfl, Nat.le_of_ble_eq_true rfl⟩ rfl (Nat.le_of_ble_eq_true rfl) dX1_copyHopper_28 ⟨Nat.zero_le _, Nat.zero_le _⟩) (fun r8 m7 H locs h6 hw => ?_)
      obtain ⟨er8, h6⟩ := h6
      rw [h6] at hw
      clear h6 m7
      subst er8
      refine lv_aload_n hx hb dX1_copyHopper_31 rfl (lv_at hl 1 rfl) ?_
      refine lv_iload_n hx hb dX1_copyHopper_32 rfl (lv_at hl 2 rfl) ?_
      refine zafter_r C hw (zrunV (rest := [.ref (ad (10, w, ((f + k) % 30)))]) C hml hl.1 hw (zn8 hL gv) rfl rfl (c_X1_lotAt l D cy ad m0 H.size hL gv h3 lf k (by omega)) zv_X1_31 rfl rfl rfl ⟨Nat.le_of_ble_eq_true rfl, Nat.le_of_ble_eq_true rfl⟩ rfl (Nat.le_of_ble_eq_true rfl) dX1_copyHopper_33 ⟨Nat.zero_le _, Nat.zero_le _⟩) (fun r11 m10 H locs h9 hw => ?_)
      obtain ⟨er11, h9⟩ := h9
      rw [h9] at hw
      clear h9 m10
      subst er11
      refine zafter_v C hw (zrunV (rest := []) C hml hl.1 hw (zn10 hL gw (Nat.mod_lt _ (by decide))) rfl rfl (c_X2_copyLot l D cy ad m0 H.size hL gw (Nat.mod_lt _ (by decide)) gv (Nat.mod_lt _ (by decide))) zv_X1_59 rfl rfl rfl ⟨Nat.le_of_ble_eq_true rfl, Nat.le_of_ble_eq_true rfl⟩ rfl (Nat.le_of_ble_eq_true rfl) dX1_copyHopper_36 ⟨Nat.zero_le _, Nat.zero_le _⟩) (fun m13 H locs h12 hw => ?_)
      have em13 := h12
      refine lv_iinc (v := (nI (k + 1))) (lv' := [(2, .int (nI (k + 1))), (0, .ref (ad (8, w, 0))), (1, .ref (ad (8, v, 0)))]) hx hb dX1_copyHopper_39 hl (k := 2) rfl (nI_1 k) (by decide) rfl (fun ls hl => ?_)
      refine lv_goto (tgt := 18) hx hb dX1_copyHopper_42 (by decide) ?_
      exact ih18 _ (by omega) (k + 1) m13 _ _ _ rfl (by omega) (by rw [em13, i18_2]; rfl) hw (lv_sub hl [1, 2, 0] rfl)
  exact loop18 _ 0 m2 _ _ _ rfl (Nat.zero_le _) (by subst_vars; rfl) hw (lv_sub hl [1, 2, 0] rfl)
