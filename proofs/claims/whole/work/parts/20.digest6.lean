/-! the digest of the class -/
def q_jS (m : ZM) (w b : Nat) (d : Int64) : Nat → Int64
  | 0 => d
  | k + 1 => zj (zj (zj (q_jS m w b d k) (m (6, w, 4 * b + k) 0)) (m (6, w, 4 * b + k) 1)) (m (6, w, 4 * b + k) 2)
def q_joinBox (m : ZM) (w b cn : Nat) (d : Int64) : Int64 := q_jS m w b (zfold (fun k => q_tellBox m w b cn (nI k)) d 12) cn
def q_dB (m : ZM) (sc : Nat → Nat) (d : Int64) : Nat → Int64
  | 0 => d
  | b + 1 => q_joinBox m 0 b (sc b) (q_dB m sc d b)
def q_dL (m : ZM) (f : Nat) (d : Int64) : Nat → Int64
  | 0 => d
  | k + 1 => zfold (fun i => q_tellLot m 0 ((f + k) % 30) (nI i)) (q_dL m f d k) 3
def q_dU (m : ZM) (d : Int64) : Nat → Int64
  | 0 => d
  | k + 1 => zfold (fun i => q_tellOre m (7, 0, 42 + k) (nI i)) (q_dU m d k) 3
def q_dg1 (m : ZM) (bc : Nat) (sc : Nat → Nat) (f hn : Nat) : Int64 := zfold (fun k => q_tellWorks m 0 bc sc f hn (nI k)) 499 14
def q_dg2 (m : ZM) (bc : Nat) (sc : Nat → Nat) (f hn : Nat) : Int64 := zfold (m (2, 0, 24)) (q_dg1 m bc sc f hn) 24
def q_dg3 (m : ZM) (bc : Nat) (sc : Nat → Nat) (f hn : Nat) : Int64 := q_dB m sc (q_dg2 m bc sc f hn) bc
def q_dg4 (m : ZM) (bc : Nat) (sc : Nat → Nat) (f hn : Nat) : Int64 := q_dL m f (q_dg3 m bc sc f hn) hn
def q_digest (m : ZM) (bc : Nat) (sc : Nat → Nat) (f hn : Nat) : Int64 := q_dU m (q_dg4 m bc sc f hn) 3

set_option maxHeartbeats 4000000 in
set_option maxRecDepth 100000 in
theorem c_X6_join (l : Launch) (D : va_G) (cy : Nat → ClassId) (ad : ZN → Nat) (m : ZM) (sz : Nat) {L : List ZN} (a b : Int64) : Met l yX6_join (zws yX6_join cX6_join 4 (some .long)) ({ frames := 0, cells := 0, slots := 0, locals := 0 } : Room) (zPc D cy ad L m sz [.long a, .long b]) (zQl (fun r m1 => r = a * 31 + b ∧ m1 = m) D cy ad L sz) 0 0 (zA ad L sz) := by
  refine zopen (Qc := fun sz => zQl (fun r m1 => r = a * 31 + b ∧ m1 = m) D cy ad L sz) RX6 (plainFor_of_name (by decide)) rfl (Nat.le_of_ble_eq_true rfl) ?_
  intro p e s mi below meth c ls C hr hlocks hml hl H locs hw
  obtain ⟨hx, hb, hts, hown, hK, hNw⟩ := id C
  have hl : lv_has ls 4 [(0, .long a), (2, .long b)] := hl
  refine lv_lload_n hx hb dX6_join_0 rfl (lv_at hl 0 rfl) ?_
  refine lv_ldc2 hx hb hown (hts _ zK_X6_261) dX6_join_1 ?_
  refine lv_lmul hx hb dX6_join_4 ?_
  refine lv_lload_n hx hb dX6_join_5 rfl (lv_at hl 1 rfl) ?_
  refine lv_ladd hx hb dX6_join_6 ?_
  exact zret_l C hr hlocks hw dX6_join_7 ⟨rfl, rfl⟩

set_option maxHeartbeats 4000000 in
set_option maxRecDepth 100000 in
theorem c_X6_joinBox (l : Launch) (D : va_G) (cy : Nat → ClassId) (ad : ZN → Nat) (m : ZM) (sz : Nat) {L : List ZN} (hL : zL L) {w b : Nat} (gw : w < 2) (gb : b < 4) {cn : Nat} (hc : m (4, w, b) 4 = nI cn) (lc : cn ≤ 4) (d : Int64) : Met l yX6_joinBox (zws yX6_joinBox cX6_joinBox 6 (some .long)) ({ frames := 2, cells := 0, slots := 0, locals := 43 } : Room) (zPc D cy ad L m sz [.long d, .ref (ad (4, w, b))]) (zQl (fun r m1 => r = q_joinBox m w b cn d ∧ m1 = m) D cy ad L sz) 0 0 (zA ad L sz) := by
  refine zopen (Qc := fun sz => zQl (fun r m1 => r = q_joinBox m w b cn d ∧ m1 = m) D cy ad L sz) RX6 (plainFor_of_name (by decide)) rfl (Nat.le_of_ble_eq_true rfl) ?_
  intro p e s mi below meth c ls C hr hlocks hml hl H locs hw
  obtain ⟨hx, hb, hts, hown, hK, hNw⟩ := id C
  have hl : lv_has ls 6 [(0, .long d), (2, .ref (ad (4, w, b)))] := hl
  refine lv_lload_n hx hb dX6_joinBox_0 rfl (lv_at hl 0 rfl) ?_
  refine lv_lstore_n (lv' := [(3, .long d), (0, .long d), (2, .ref (ad (4, w, b)))]) hx hb dX6_joinBox_1 rfl hl (by decide) rfl (fun ls hl => ?_)
  refine lv_iconst (v := 0) hx hb dX6_joinBox_2 (by decide) ?_
  refine lv_istore (lv' := [(5, .int 0), (3, .long d), (0, .long d), (2, .ref (ad (4, w, b)))]) hx hb dX6_joinBox_3 hl (by decide) rfl (fun ls hl => ?_)
  have loop5 : ∀ (z : Nat) (k1 : Nat) (y1 : Int64) (H : Heap) (locs : List Loc) (ls : Array Slot), 12 - k1 = z → (k1 ≤ 12) → (y1 = zfold (fun k => q_tellBox m w b cn (nI k)) d k1) → zH D cy ad L s.heap H locs m → lv_has ls 6 [(2, .ref (ad (4, w, b))), (3, .long y1), (5, .int (nI k1))] → W p l e ({ frames := 2, cells := 0, slots := 0, locals := 43 } : Room) s mi [.long d, .ref (ad (4, w, b))].toArray below meth c H locs 0 0 (MQ below (zQl (fun r m1 => r = q_joinBox m w b cn d ∧ m1 = m) D cy ad L s.heap.size) [.long d, .ref (ad (4, w, b))].toArray s 0 0 (zA ad L s.heap.size)) (F0 mi 5 ls []) := by
    intro z
    induction z using Nat.strongRecOn with
    | _ z ih5 =>
    intro k1 y1 H locs ls hz5 i5_1 i5_2 hw hl
    refine lv_iload hx hb dX6_joinBox_5 (lv_at hl 2 rfl) ?_
    refine lv_bipush (v := 12) hx hb dX6_joinBox_7 (by decide) ?_
    refine lv_icmp_ge (tgt := 30) hx hb dX6_joinBox_9 (by decide) (fun c9_1 => ?_) (fun c9_1 => ?_)
    · skip
      have n2 := zle c9_1 (a := 12) (b := k1) rfl rfl (by omega) (by omega)
      refine lv_iconst (v := 0) hx hb dX6_joinBox_30 (by decide) ?_
      refine lv_istore (lv' := [(5, .int 0), (2, .ref (ad (4, w, b))), (3, .long y1)]) hx hb dX6_joinBox_31 hl (by decide) rfl (fun ls hl => ?_)
      have loop33 : ∀ (z : Nat) (k2 : Nat) (y2 : Int64) (H : Heap) (locs : List Loc) (ls : Array Slot), cn - k2 = z → (k2 ≤ cn) → (y2 = q_jS m w b y1 k2) → zH D cy ad L s.heap H locs m → lv_has ls 6 [(2, .ref (ad (4, w, b))), (3, .long y2), (5, .int (nI k2))] → W p l e ({ frames := 2, cells := 0, slots := 0, locals := 43 } : Room) s mi [.long d, .ref (ad (4, w, b))].toArray below meth c H locs 0 0 (MQ below (zQl (fun r m1 => r = q_joinBox m w b cn d ∧ m1 = m) D cy ad L s.heap.size) [.long d, .ref (ad (4, w, b))].toArray s 0 0 (zA ad L s.heap.size)) (F0 mi 33 ls []) := by
        intro z
        induction z using Nat.strongRecOn with
        | _ z ih33 =>
        intro k2 y2 H locs ls hz33 i33_1 i33_2 hw hl
        refine lv_iload hx hb dX6_joinBox_33 (lv_at hl 2 rfl) ?_
        refine lv_aload_n hx hb dX6_joinBox_35 rfl (lv_at hl 0 rfl) ?_
        refine zg_X6_57 C hw (zn4 hL gw (by omega)) dX6_joinBox_36 ?_
        refine ztop hc ?_
        refine lv_icmp_ge (tgt := 96) hx hb dX6_joinBox_39 (by decide) (fun c39_3 => ?_) (fun c39_3 => ?_)
        · skip
          have n4 := zle c39_3 (a := cn) (b := k2) rfl rfl (by omega) (by omega)
          refine lv_lload_n hx hb dX6_joinBox_96 rfl (lv_at hl 1 rfl) ?_
          exact zret_l C hr hlocks hw dX6_joinBox_97 ⟨by rw [i33_2, show k2 = cn by omega, i5_2, show k1 = 12 by omega]; rfl, rfl⟩
        · skip
          have n5 := znle c39_3 (a := cn) (b := k2) rfl rfl (by omega) (by omega)
          refine lv_lload_n hx hb dX6_joinBox_42 rfl (lv_at hl 1 rfl) ?_
          refine lv_aload_n hx hb dX6_joinBox_43 rfl (lv_at hl 0 rfl) ?_
          refine zg_X6_70 C hw (zn4 hL gw (by omega)) dX6_joinBox_44 ?_
          refine lv_iload hx hb dX6_joinBox_47 (lv_at hl 2 rfl) ?_
          refine zald_5N C hw (zn5 hL gw (by omega)) k2 (by omega) rfl dX6_joinBox_49 ?_
          refine zg_X6_263 C hw (zn6 hL gw (by omega)) dX6_joinBox_50 ?_
          refine lv_i2l hx hb dX6_joinBox_53 rfl ?_
          refine zafter_l C hw (zrunS (rest := []) C hml hl.1 hw (c_X6_join l D cy ad m H.size y2 ((m (6, w, 4 * b + k2) 0).toInt64)) zv_X6_226 rfl rfl rfl ⟨Nat.le_of_ble_eq_true rfl, Nat.le_of_ble_eq_true rfl⟩ rfl (Nat.le_of_ble_eq_true rfl) dX6_joinBox_54 ⟨Nat.zero_le _, Nat.zero_le _⟩) (fun r8 m7 H locs h6 hw => ?_)
          obtain ⟨er8, h6⟩ := h6
          rw [h6] at hw
          clear h6 m7
          refine lv_lstore_n (lv' := [(3, .long r8), (2, .ref (ad (4, w, b))), (5, .int (nI k2))]) hx hb dX6_joinBox_57 rfl hl (by decide) rfl (fun ls hl => ?_)
          refine lv_lload_n hx hb dX6_joinBox_58 rfl (lv_at hl 0 rfl) ?_
          refine lv_aload_n hx hb dX6_joinBox_59 rfl (lv_at hl 1 rfl) ?_
          refine zg_X6_70 C hw (zn4 hL gw (by omega)) dX6_joinBox_60 ?_
          refine lv_iload hx hb dX6_joinBox_63 (lv_at hl 2 rfl) ?_
          refine zald_5N C hw (zn5 hL gw (by omega)) k2 (by omega) rfl dX6_joinBox_65 ?_
          refine zg_X6_266 C hw (zn6 hL gw (by omega)) dX6_joinBox_66 ?_
          refine lv_i2l hx hb dX6_joinBox_69 rfl ?_
          refine zafter_l C hw (zrunS (rest := []) C hml hl.1 hw (c_X6_join l D cy ad m H.size r8 ((m (6, w, 4 * b + k2) 1).toInt64)) zv_X6_226 rfl rfl rfl ⟨Nat.le_of_ble_eq_true rfl, Nat.le_of_ble_eq_true rfl⟩ rfl (Nat.le_of_ble_eq_true rfl) dX6_joinBox_70 ⟨Nat.zero_le _, Nat.zero_le _⟩) (fun r11 m10 H locs h9 hw => ?_)
          obtain ⟨er11, h9⟩ := h9
          rw [h9] at hw
          clear h9 m10
          refine lv_lstore_n (lv' := [(3, .long r11), (2, .ref (ad (4, w, b))), (5, .int (nI k2))]) hx hb dX6_joinBox_73 rfl hl (by decide) rfl (fun ls hl => ?_)
          refine lv_lload_n hx hb dX6_joinBox_74 rfl (lv_at hl 0 rfl) ?_
          refine lv_aload_n hx hb dX6_joinBox_75 rfl (lv_at hl 1 rfl) ?_
          refine zg_X6_70 C hw (zn4 hL gw (by omega)) dX6_joinBox_76 ?_
          refine lv_iload hx hb dX6_joinBox_79 (lv_at hl 2 rfl) ?_
          refine zald_5N C hw (zn5 hL gw (by omega)) k2 (by omega) rfl dX6_joinBox_81 ?_
          refine zg_X6_74 C hw (zn6 hL gw (by omega)) dX6_joinBox_82 ?_
          refine lv_i2l hx hb dX6_joinBox_85 rfl ?_
          refine zafter_l C hw (zrunS (rest := []) C hml hl.1 hw (c_X6_join l D cy ad m H.size r11 ((m (6, w, 4 * b + k2) 2).toInt64)) zv_X6_226 rfl rfl rfl ⟨Nat.le_of_ble_eq_true rfl, Nat.le_of_ble_eq_true rfl⟩ rfl (Nat.le_of_ble_eq_true rfl) dX6_joinBox_86 ⟨Nat.zero_le _, Nat.zero_le _⟩) (fun r14 m13 H locs h12 hw => ?_)
          obtain ⟨er14, h12⟩ := h12
          rw [h12] at hw
          clear h12 m13
          refine lv_lstore_n (lv' := [(3, .long r14), (2, .ref (ad (4, w, b))), (5, .int (nI k2))]) hx hb dX6_joinBox_89 rfl hl (by decide) rfl (fun ls hl => ?_)
          refine lv_iinc (v := (nI (k2 + 1))) (lv' := [(5, .int (nI (k2 + 1))), (3, .long r14), (2, .ref (ad (4, w, b)))]) hx hb dX6_joinBox_90 hl (k := 2) rfl (nI_1 k2) (by decide) rfl (fun ls hl => ?_)
          refine lv_goto (tgt := 33) hx hb dX6_joinBox_93 (by decide) ?_
          exact ih33 _ (by omega) (k2 + 1) r14 _ _ _ rfl (by omega) (by rw [er14, er11, er8, i33_2]; rfl) hw (lv_sub hl [2, 1, 0] rfl)
      exact loop33 _ 0 y1 _ _ _ rfl (by omega) rfl hw (lv_sub hl [1, 2, 0] rfl)
    · skip
      have n15 := znle c9_1 (a := 12) (b := k1) rfl rfl (by omega) (by omega)
      refine lv_lload_n hx hb dX6_joinBox_12 rfl (lv_at hl 1 rfl) ?_
      refine lv_aload_n hx hb dX6_joinBox_13 rfl (lv_at hl 0 rfl) ?_
      refine lv_iload hx hb dX6_joinBox_14 (lv_at hl 2 rfl) ?_
      refine zafter_i C hw (zrunV (rest := [.long y1]) C hml hl.1 hw (zn4 hL gw (by omega)) rfl rfl (c_X0_tellOfBox l D cy ad m H.size hL gw gb hc lc (nI k1)) zv_X6_91 rfl rfl rfl ⟨Nat.le_of_ble_eq_true rfl, Nat.le_of_ble_eq_true rfl⟩ rfl (Nat.le_of_ble_eq_true rfl) dX6_joinBox_16 ⟨Nat.zero_le _, Nat.zero_le _⟩) (fun r18 m17 H locs h16 hw => ?_)
      obtain ⟨er18, h16⟩ := h16
      rw [h16] at hw
      clear h16 m17
      refine lv_i2l hx hb dX6_joinBox_19 rfl ?_
      refine zafter_l C hw (zrunS (rest := []) C hml hl.1 hw (c_X6_join l D cy ad m H.size y1 (r18.toInt64)) zv_X6_226 rfl rfl rfl ⟨Nat.le_of_ble_eq_true rfl, Nat.le_of_ble_eq_true rfl⟩ rfl (Nat.le_of_ble_eq_true rfl) dX6_joinBox_20 ⟨Nat.zero_le _, Nat.zero_le _⟩) (fun r21 m20 H locs h19 hw => ?_)
      obtain ⟨er21, h19⟩ := h19
      rw [h19] at hw
      clear h19 m20
      refine lv_lstore_n (lv' := [(3, .long r21), (2, .ref (ad (4, w, b))), (5, .int (nI k1))]) hx hb dX6_joinBox_23 rfl hl (by decide) rfl (fun ls hl => ?_)
      refine lv_iinc (v := (nI (k1 + 1))) (lv' := [(5, .int (nI (k1 + 1))), (3, .long r21), (2, .ref (ad (4, w, b)))]) hx hb dX6_joinBox_24 hl (k := 2) rfl (nI_1 k1) (by decide) rfl (fun ls hl => ?_)
      refine lv_goto (tgt := 5) hx hb dX6_joinBox_27 (by decide) ?_
      exact ih5 _ (by omega) (k1 + 1) r21 _ _ _ rfl (by omega) (by rw [er21, er18, i5_2]; rfl) hw (lv_sub hl [2, 1, 0] rfl)
  exact loop5 _ 0 d _ _ _ rfl (by omega) rfl hw (lv_sub hl [3, 1, 0] rfl)

set_option maxHeartbeats 4000000 in
set_option maxRecDepth 100000 in
theorem c_X6_joinLot (l : Launch) (D : va_G) (cy : Nat → ClassId) (ad : ZN → Nat) (m : ZM) (sz : Nat) {L : List ZN} (hL : zL L) {w j : Nat} (gw : w < 2) (gj : j < 30) (d : Int64) : Met l yX6_joinLot (zws yX6_joinLot cX6_joinLot 6 (some .long)) ({ frames := 4, cells := 0, slots := 0, locals := 85 } : Room) (zPc D cy ad L m sz [.long d, .ref (ad (10, w, j))]) (zQl (fun r m1 => r = zfold (fun k => q_tellLot m w j (nI k)) d 3 ∧ m1 = m) D cy ad L sz) 0 0 (zA ad L sz) := by
  refine zopen (Qc := fun sz => zQl (fun r m1 => r = zfold (fun k => q_tellLot m w j (nI k)) d 3 ∧ m1 = m) D cy ad L sz) RX6 (plainFor_of_name (by decide)) rfl (Nat.le_of_ble_eq_true rfl) ?_
  intro p e s mi below meth c ls C hr hlocks hml hl H locs hw
  obtain ⟨hx, hb, hts, hown, hK, hNw⟩ := id C
  have hl : lv_has ls 6 [(0, .long d), (2, .ref (ad (10, w, j)))] := hl
  refine lv_lload_n hx hb dX6_joinLot_0 rfl (lv_at hl 0 rfl) ?_
  refine lv_lstore_n (lv' := [(3, .long d), (0, .long d), (2, .ref (ad (10, w, j)))]) hx hb dX6_joinLot_1 rfl hl (by decide) rfl (fun ls hl => ?_)
  refine lv_iconst (v := 0) hx hb dX6_joinLot_2 (by decide) ?_
  refine lv_istore (lv' := [(5, .int 0), (3, .long d), (0, .long d), (2, .ref (ad (10, w, j)))]) hx hb dX6_joinLot_3 hl (by decide) rfl (fun ls hl => ?_)
  have loop5 : ∀ (z : Nat) (k1 : Nat) (y1 : Int64) (H : Heap) (locs : List Loc) (ls : Array Slot), 3 - k1 = z → (k1 ≤ 3) → (y1 = zfold (fun k => q_tellLot m w j (nI k)) d k1) → zH D cy ad L s.heap H locs m → lv_has ls 6 [(2, .ref (ad (10, w, j))), (3, .long y1), (5, .int (nI k1))] → W p l e ({ frames := 4, cells := 0, slots := 0, locals := 85 } : Room) s mi [.long d, .ref (ad (10, w, j))].toArray below meth c H locs 0 0 (MQ below (zQl (fun r m1 => r = zfold (fun k => q_tellLot m w j (nI k)) d 3 ∧ m1 = m) D cy ad L s.heap.size) [.long d, .ref (ad (10, w, j))].toArray s 0 0 (zA ad L s.heap.size)) (F0 mi 5 ls []) := by
    intro z
    induction z using Nat.strongRecOn with
    | _ z ih5 =>
    intro k1 y1 H locs ls hz5 i5_1 i5_2 hw hl
    refine lv_iload hx hb dX6_joinLot_5 (lv_at hl 2 rfl) ?_
    refine lv_iconst (v := 3) hx hb dX6_joinLot_7 (by decide) ?_
    refine lv_icmp_ge (tgt := 29) hx hb dX6_joinLot_8 (by decide) (fun c8_1 => ?_) (fun c8_1 => ?_)
    · skip
      have n2 := zle c8_1 (a := 3) (b := k1) rfl rfl (by omega) (by omega)
      refine lv_lload_n hx hb dX6_joinLot_29 rfl (lv_at hl 1 rfl) ?_
      exact zret_l C hr hlocks hw dX6_joinLot_30 ⟨by rw [i5_2, show k1 = 3 by omega], rfl⟩
    · skip
      have n3 := znle c8_1 (a := 3) (b := k1) rfl rfl (by omega) (by omega)
      refine lv_lload_n hx hb dX6_joinLot_11 rfl (lv_at hl 1 rfl) ?_
      refine lv_aload_n hx hb dX6_joinLot_12 rfl (lv_at hl 0 rfl) ?_
      refine lv_iload hx hb dX6_joinLot_13 (lv_at hl 2 rfl) ?_
      refine zafter_i C hw (zrunV (rest := [.long y1]) C hml hl.1 hw (zn10 hL gw (by omega)) rfl rfl (c_X2_tellOfLot l D cy ad m H.size hL gw gj (nI k1)) zv_X6_125 rfl rfl rfl ⟨Nat.le_of_ble_eq_true rfl, Nat.le_of_ble_eq_true rfl⟩ rfl (Nat.le_of_ble_eq_true rfl) dX6_joinLot_15 ⟨Nat.zero_le _, Nat.zero_le _⟩) (fun r6 m5 H locs h4 hw => ?_)
      obtain ⟨er6, h4⟩ := h4
      rw [h4] at hw
      clear h4 m5
      refine lv_i2l hx hb dX6_joinLot_18 rfl ?_
      refine zafter_l C hw (zrunS (rest := []) C hml hl.1 hw (c_X6_join l D cy ad m H.size y1 (r6.toInt64)) zv_X6_226 rfl rfl rfl ⟨Nat.le_of_ble_eq_true rfl, Nat.le_of_ble_eq_true rfl⟩ rfl (Nat.le_of_ble_eq_true rfl) dX6_joinLot_19 ⟨Nat.zero_le _, Nat.zero_le _⟩) (fun r9 m8 H locs h7 hw => ?_)
      obtain ⟨er9, h7⟩ := h7
      rw [h7] at hw
      clear h7 m8
      refine lv_lstore_n (lv' := [(3, .long r9), (2, .ref (ad (10, w, j))), (5, .int (nI k1))]) hx hb dX6_joinLot_22 rfl hl (by decide) rfl (fun ls hl => ?_)
      refine lv_iinc (v := (nI (k1 + 1))) (lv' := [(5, .int (nI (k1 + 1))), (3, .long r9), (2, .ref (ad (10, w, j)))]) hx hb dX6_joinLot_23 hl (k := 2) rfl (nI_1 k1) (by decide) rfl (fun ls hl => ?_)
      refine lv_goto (tgt := 5) hx hb dX6_joinLot_26 (by decide) ?_
      exact ih5 _ (by omega) (k1 + 1) r9 _ _ _ rfl (by omega) (by rw [er9, er6, i5_2]; rfl) hw (lv_sub hl [2, 1, 0] rfl)
  exact loop5 _ 0 d _ _ _ rfl (by omega) rfl hw (lv_sub hl [3, 1, 0] rfl)

set_option maxHeartbeats 4000000 in
set_option maxRecDepth 100000 in
theorem c_X6_joinBuddle (l : Launch) (D : va_G) (cy : Nat → ClassId) (ad : ZN → Nat) (m : ZM) (sz : Nat) {L : List ZN} (hL : zL L) {w o : Nat} (gw : w < 2) (go : o < 47) (d : Int64) : Met l yX6_joinBuddle (zws yX6_joinBuddle cX6_joinBuddle 6 (some .long)) ({ frames := 3, cells := 0, slots := 0, locals := 64 } : Room) (zPc D cy ad L m sz [.long d, .ref (ad (7, w, o))]) (zQl (fun r m1 => r = zfold (fun k => q_tellOre m (7, w, o) (nI k)) d 3 ∧ m1 = m) D cy ad L sz) 0 0 (zA ad L sz) := by
  refine zopen (Qc := fun sz => zQl (fun r m1 => r = zfold (fun k => q_tellOre m (7, w, o) (nI k)) d 3 ∧ m1 = m) D cy ad L sz) RX6 (plainFor_of_name (by decide)) rfl (Nat.le_of_ble_eq_true rfl) ?_
  intro p e s mi below meth c ls C hr hlocks hml hl H locs hw
  obtain ⟨hx, hb, hts, hown, hK, hNw⟩ := id C
  have hl : lv_has ls 6 [(0, .long d), (2, .ref (ad (7, w, o)))] := hl
  refine lv_lload_n hx hb dX6_joinBuddle_0 rfl (lv_at hl 0 rfl) ?_
  refine lv_lstore_n (lv' := [(3, .long d), (0, .long d), (2, .ref (ad (7, w, o)))]) hx hb dX6_joinBuddle_1 rfl hl (by decide) rfl (fun ls hl => ?_)
  refine lv_iconst (v := 0) hx hb dX6_joinBuddle_2 (by decide) ?_
  refine lv_istore (lv' := [(5, .int 0), (3, .long d), (0, .long d), (2, .ref (ad (7, w, o)))]) hx hb dX6_joinBuddle_3 hl (by decide) rfl (fun ls hl => ?_)
  have loop5 : ∀ (z : Nat) (k1 : Nat) (y1 : Int64) (H : Heap) (locs : List Loc) (ls : Array Slot), 3 - k1 = z → (k1 ≤ 3) → (y1 = zfold (fun k => q_tellOre m (7, w, o) (nI k)) d k1) → zH D cy ad L s.heap H locs m → lv_has ls 6 [(2, .ref (ad (7, w, o))), (3, .long y1), (5, .int (nI k1))] → W p l e ({ frames := 3, cells := 0, slots := 0, locals := 64 } : Room) s mi [.long d, .ref (ad (7, w, o))].toArray below meth c H locs 0 0 (MQ below (zQl (fun r m1 => r = zfold (fun k => q_tellOre m (7, w, o) (nI k)) d 3 ∧ m1 = m) D cy ad L s.heap.size) [.long d, .ref (ad (7, w, o))].toArray s 0 0 (zA ad L s.heap.size)) (F0 mi 5 ls []) := by
    intro z
    induction z using Nat.strongRecOn with
    | _ z ih5 =>
    intro k1 y1 H locs ls hz5 i5_1 i5_2 hw hl
    refine lv_iload hx hb dX6_joinBuddle_5 (lv_at hl 2 rfl) ?_
    refine lv_iconst (v := 3) hx hb dX6_joinBuddle_7 (by decide) ?_
    refine lv_icmp_ge (tgt := 29) hx hb dX6_joinBuddle_8 (by decide) (fun c8_1 => ?_) (fun c8_1 => ?_)
    · skip
      have n2 := zle c8_1 (a := 3) (b := k1) rfl rfl (by omega) (by omega)
      refine lv_lload_n hx hb dX6_joinBuddle_29 rfl (lv_at hl 1 rfl) ?_
      exact zret_l C hr hlocks hw dX6_joinBuddle_30 ⟨by rw [i5_2, show k1 = 3 by omega], rfl⟩
    · skip
      have n3 := znle c8_1 (a := 3) (b := k1) rfl rfl (by omega) (by omega)
      refine lv_lload_n hx hb dX6_joinBuddle_11 rfl (lv_at hl 1 rfl) ?_
      refine lv_aload_n hx hb dX6_joinBuddle_12 rfl (lv_at hl 0 rfl) ?_
      refine lv_iload hx hb dX6_joinBuddle_13 (lv_at hl 2 rfl) ?_
      refine zafter_i C hw (zrunV (rest := [.long y1]) C hml hl.1 hw (zn7 hL gw (by omega)) rfl rfl (c_X3_tellOfOre l D cy ad m H.size hL gw go (nI k1)) zv_X6_151 rfl rfl rfl ⟨Nat.le_of_ble_eq_true rfl, Nat.le_of_ble_eq_true rfl⟩ rfl (Nat.le_of_ble_eq_true rfl) dX6_joinBuddle_15 ⟨Nat.zero_le _, Nat.zero_le _⟩) (fun r6 m5 H locs h4 hw => ?_)
      obtain ⟨er6, h4⟩ := h4
      rw [h4] at hw
      clear h4 m5
      refine lv_i2l hx hb dX6_joinBuddle_18 rfl ?_
      refine zafter_l C hw (zrunS (rest := []) C hml hl.1 hw (c_X6_join l D cy ad m H.size y1 (r6.toInt64)) zv_X6_226 rfl rfl rfl ⟨Nat.le_of_ble_eq_true rfl, Nat.le_of_ble_eq_true rfl⟩ rfl (Nat.le_of_ble_eq_true rfl) dX6_joinBuddle_19 ⟨Nat.zero_le _, Nat.zero_le _⟩) (fun r9 m8 H locs h7 hw => ?_)
      obtain ⟨er9, h7⟩ := h7
      rw [h7] at hw
      clear h7 m8
      refine lv_lstore_n (lv' := [(3, .long r9), (2, .ref (ad (7, w, o))), (5, .int (nI k1))]) hx hb dX6_joinBuddle_22 rfl hl (by decide) rfl (fun ls hl => ?_)
      refine lv_iinc (v := (nI (k1 + 1))) (lv' := [(5, .int (nI (k1 + 1))), (3, .long r9), (2, .ref (ad (7, w, o)))]) hx hb dX6_joinBuddle_23 hl (k := 2) rfl (nI_1 k1) (by decide) rfl (fun ls hl => ?_)
      refine lv_goto (tgt := 5) hx hb dX6_joinBuddle_26 (by decide) ?_
      exact ih5 _ (by omega) (k1 + 1) r9 _ _ _ rfl (by omega) (by rw [er9, er6, i5_2]; rfl) hw (lv_sub hl [2, 1, 0] rfl)
  exact loop5 _ 0 d _ _ _ rfl (by omega) rfl hw (lv_sub hl [3, 1, 0] rfl)

set_option maxHeartbeats 4000000 in
set_option maxRecDepth 100000 in
theorem c_X6_digest (l : Launch) (D : va_G) (cy : Nat → ClassId) (ad : ZN → Nat) (m : ZM) (sz : Nat) {L : List ZN} (hL : zL L) {bc : Nat} {sc bu : Nat → Nat} {hq : Nat} (G : gW m 0 bc sc bu hq) {fq hn : Nat} (hfq : m (8, 0, 0) 1 = nI fq) (lfq : fq < 30) (hhn : m (8, 0, 0) 2 = nI hn) (lhn : hn ≤ 30) : Met l yX6_digest (zws yX6_digest cX6_digest 4 (some .long)) ({ frames := 5, cells := 0, slots := 0, locals := 110 } : Room) (zPc D cy ad L m sz [.ref (ad (0, 0, 0))]) (zQl (fun r m1 => r = q_digest m bc sc fq hn ∧ m1 = m) D cy ad L sz) 0 0 (zA ad L sz) := by
  refine zopen (Qc := fun sz => zQl (fun r m1 => r = q_digest m bc sc fq hn ∧ m1 = m) D cy ad L sz) RX6 (plainFor_of_name (by decide)) rfl (Nat.le_of_ble_eq_true rfl) ?_
  intro p e s mi below meth c ls C hr hlocks hml hl H locs hw
  obtain ⟨hx, hb, hts, hown, hK, hNw⟩ := id C
  have hl : lv_has ls 4 [(0, .ref (ad (0, 0, 0)))] := hl
  obtain ⟨hbc, lbc, hbx, ⟨f, hf, lf⟩, hhr, lhr⟩ := id G
  refine lv_ldc2 hx hb hown (hts _ zK_X6_224) dX6_digest_0 ?_
  refine lv_lstore_n (lv' := [(1, .long 499), (0, .ref (ad (0, 0, 0)))]) hx hb dX6_digest_3 rfl hl (by decide) rfl (fun ls hl => ?_)
  refine lv_iconst (v := 0) hx hb dX6_digest_4 (by decide) ?_
  refine lv_istore_n (lv' := [(3, .int 0), (1, .long 499), (0, .ref (ad (0, 0, 0)))]) hx hb dX6_digest_5 rfl hl (by decide) rfl (fun ls hl => ?_)
  have loop6 : ∀ (z : Nat) (k1 : Nat) (y1 : Int64) (H : Heap) (locs : List Loc) (ls : Array Slot), 14 - k1 = z → (k1 ≤ 14) → (y1 = zfold (fun k => q_tellWorks m 0 bc sc fq hn (nI k)) 499 k1) → zH D cy ad L s.heap H locs m → lv_has ls 4 [(0, .ref (ad (0, 0, 0))), (1, .long y1), (3, .int (nI k1))] → W p l e ({ frames := 5, cells := 0, slots := 0, locals := 110 } : Room) s mi [.ref (ad (0, 0, 0))].toArray below meth c H locs 0 0 (MQ below (zQl (fun r m1 => r = q_digest m bc sc fq hn ∧ m1 = m) D cy ad L s.heap.size) [.ref (ad (0, 0, 0))].toArray s 0 0 (zA ad L s.heap.size)) (F0 mi 6 ls []) := by
    intro z
    induction z using Nat.strongRecOn with
    | _ z ih6 =>
    intro k1 y1 H locs ls hz6 i6_1 i6_2 hw hl
    refine lv_iload_n hx hb dX6_digest_6 rfl (lv_at hl 2 rfl) ?_
    refine lv_bipush (v := 14) hx hb dX6_digest_7 (by decide) ?_
    refine lv_icmp_ge (tgt := 32) hx hb dX6_digest_9 (by decide) (fun c9_1 => ?_) (fun c9_1 => ?_)
    · skip
      have n2 := zle c9_1 (a := 14) (b := k1) rfl rfl (by omega) (by omega)
      refine lv_iconst (v := 0) hx hb dX6_digest_32 (by decide) ?_
      refine lv_istore_n (lv' := [(3, .int 0), (0, .ref (ad (0, 0, 0))), (1, .long y1)]) hx hb dX6_digest_33 rfl hl (by decide) rfl (fun ls hl => ?_)
      have loop34 : ∀ (z : Nat) (k2 : Nat) (y2 : Int64) (H : Heap) (locs : List Loc) (ls : Array Slot), 24 - k2 = z → (k2 ≤ 24) → (y2 = zfold (m (2, 0, 24)) (q_dg1 m bc sc fq hn) k2) → zH D cy ad L s.heap H locs m → lv_has ls 4 [(0, .ref (ad (0, 0, 0))), (1, .long y2), (3, .int (nI k2))] → W p l e ({ frames := 5, cells := 0, slots := 0, locals := 110 } : Room) s mi [.ref (ad (0, 0, 0))].toArray below meth c H locs 0 0 (MQ below (zQl (fun r m1 => r = q_digest m bc sc fq hn ∧ m1 = m) D cy ad L s.heap.size) [.ref (ad (0, 0, 0))].toArray s 0 0 (zA ad L s.heap.size)) (F0 mi 34 ls []) := by
        intro z
        induction z using Nat.strongRecOn with
        | _ z ih34 =>
        intro k2 y2 H locs ls hz34 i34_1 i34_2 hw hl
        refine lv_iload_n hx hb dX6_digest_34 rfl (lv_at hl 2 rfl) ?_
        refine lv_bipush (v := 24) hx hb dX6_digest_35 (by decide) ?_
        refine lv_icmp_ge (tgt := 61) hx hb dX6_digest_37 (by decide) (fun c37_3 => ?_) (fun c37_3 => ?_)
        · skip
          have n4 := zle c37_3 (a := 24) (b := k2) rfl rfl (by omega) (by omega)
          refine lv_iconst (v := 0) hx hb dX6_digest_61 (by decide) ?_
          refine lv_istore_n (lv' := [(3, .int 0), (0, .ref (ad (0, 0, 0))), (1, .long y2)]) hx hb dX6_digest_62 rfl hl (by decide) rfl (fun ls hl => ?_)
          have loop63 : ∀ (z : Nat) (b3 : Nat) (y3 : Int64) (H : Heap) (locs : List Loc) (ls : Array Slot), bc - b3 = z → (b3 ≤ bc) → (y3 = q_dB m sc (q_dg2 m bc sc fq hn) b3) → zH D cy ad L s.heap H locs m → lv_has ls 4 [(0, .ref (ad (0, 0, 0))), (1, .long y3), (3, .int (nI b3))] → W p l e ({ frames := 5, cells := 0, slots := 0, locals := 110 } : Room) s mi [.ref (ad (0, 0, 0))].toArray below meth c H locs 0 0 (MQ below (zQl (fun r m1 => r = q_digest m bc sc fq hn ∧ m1 = m) D cy ad L s.heap.size) [.ref (ad (0, 0, 0))].toArray s 0 0 (zA ad L s.heap.size)) (F0 mi 63 ls []) := by
            intro z
            induction z using Nat.strongRecOn with
            | _ z ih63 =>
            intro b3 y3 H locs ls hz63 i63_1 i63_2 hw hl
            refine lv_iload_n hx hb dX6_digest_63 rfl (lv_at hl 2 rfl) ?_
            refine lv_aload_n hx hb dX6_digest_64 rfl (lv_at hl 0 rfl) ?_
            refine zg_X6_10 C hw (zn0 hL) dX6_digest_65 ?_
            refine zg_X6_41 C hw (zn1 hL (by decide)) dX6_digest_68 ?_
            refine ztop hbc ?_
            refine lv_icmp_ge (tgt := 94) hx hb dX6_digest_71 (by decide) (fun c71_5 => ?_) (fun c71_5 => ?_)
            · skip
              have n6 := zle c71_5 (a := bc) (b := b3) rfl rfl (by omega) (by omega)
              refine lv_iconst (v := 0) hx hb dX6_digest_94 (by decide) ?_
              refine lv_istore_n (lv' := [(3, .int 0), (0, .ref (ad (0, 0, 0))), (1, .long y3)]) hx hb dX6_digest_95 rfl hl (by decide) rfl (fun ls hl => ?_)
              have loop96 : ∀ (z : Nat) (k4 : Nat) (y4 : Int64) (H : Heap) (locs : List Loc) (ls : Array Slot), hn - k4 = z → (k4 ≤ hn) → (y4 = q_dL m fq (q_dg3 m bc sc fq hn) k4) → zH D cy ad L s.heap H locs m → lv_has ls 4 [(0, .ref (ad (0, 0, 0))), (1, .long y4), (3, .int (nI k4))] → W p l e ({ frames := 5, cells := 0, slots := 0, locals := 110 } : Room) s mi [.ref (ad (0, 0, 0))].toArray below meth c H locs 0 0 (MQ below (zQl (fun r m1 => r = q_digest m bc sc fq hn ∧ m1 = m) D cy ad L s.heap.size) [.ref (ad (0, 0, 0))].toArray s 0 0 (zA ad L s.heap.size)) (F0 mi 96 ls []) := by
                intro z
                induction z using Nat.strongRecOn with
                | _ z ih96 =>
                intro k4 y4 H locs ls hz96 i96_1 i96_2 hw hl
                refine lv_iload_n hx hb dX6_digest_96 rfl (lv_at hl 2 rfl) ?_
                refine lv_aload_n hx hb dX6_digest_97 rfl (lv_at hl 0 rfl) ?_
                refine zg_X6_10 C hw (zn0 hL) dX6_digest_98 ?_
                refine zg_X6_104 C hw (zn1 hL (by decide)) dX6_digest_101 ?_
                refine zg_X6_114 C hw (zn8 hL (by decide)) dX6_digest_104 ?_
                refine ztop hhn ?_
                refine lv_icmp_ge (tgt := 132) hx hb dX6_digest_107 (by decide) (fun c107_7 => ?_) (fun c107_7 => ?_)
                · skip
                  have n8 := zle c107_7 (a := hn) (b := k4) rfl rfl (by omega) (by omega)
                  refine lv_iconst (v := 0) hx hb dX6_digest_132 (by decide) ?_
                  refine lv_istore_n (lv' := [(3, .int 0), (0, .ref (ad (0, 0, 0))), (1, .long y4)]) hx hb dX6_digest_133 rfl hl (by decide) rfl (fun ls hl => ?_)
                  have loop134 : ∀ (z : Nat) (k5 : Nat) (y5 : Int64) (H : Heap) (locs : List Loc) (ls : Array Slot), 3 - k5 = z → (k5 ≤ 3) → (y5 = q_dU m (q_dg4 m bc sc fq hn) k5) → zH D cy ad L s.heap H locs m → lv_has ls 4 [(0, .ref (ad (0, 0, 0))), (1, .long y5), (3, .int (nI k5))] → W p l e ({ frames := 5, cells := 0, slots := 0, locals := 110 } : Room) s mi [.ref (ad (0, 0, 0))].toArray below meth c H locs 0 0 (MQ below (zQl (fun r m1 => r = q_digest m bc sc fq hn ∧ m1 = m) D cy ad L s.heap.size) [.ref (ad (0, 0, 0))].toArray s 0 0 (zA ad L s.heap.size)) (F0 mi 134 ls []) := by
                    intro z
                    induction z using Nat.strongRecOn with
                    | _ z ih134 =>
                    intro k5 y5 H locs ls hz134 i134_1 i134_2 hw hl
                    refine lv_iload_n hx hb dX6_digest_134 rfl (lv_at hl 2 rfl) ?_
                    refine lv_iconst (v := 3) hx hb dX6_digest_135 (by decide) ?_
                    refine lv_icmp_ge (tgt := 159) hx hb dX6_digest_136 (by decide) (fun c136_9 => ?_) (fun c136_9 => ?_)
                    · skip
                      have n10 := zle c136_9 (a := 3) (b := k5) rfl rfl (by omega) (by omega)
                      refine lv_lload_n hx hb dX6_digest_159 rfl (lv_at hl 1 rfl) ?_
                      exact zret_l C hr hlocks hw dX6_digest_160 ⟨by rw [i134_2, show k5 = 3 by omega]; rfl, rfl⟩
                    · skip
                      have n11 := znle c136_9 (a := 3) (b := k5) rfl rfl (by omega) (by omega)
                      refine lv_lload_n hx hb dX6_digest_139 rfl (lv_at hl 1 rfl) ?_
                      refine lv_aload_n hx hb dX6_digest_140 rfl (lv_at hl 0 rfl) ?_
                      refine zg_X6_10 C hw (zn0 hL) dX6_digest_141 ?_
                      refine zg_X6_242 C hw (zn1 hL (by decide)) dX6_digest_144 ?_
                      refine lv_iload_n hx hb dX6_digest_147 rfl (lv_at hl 2 rfl) ?_
                      refine zald_11N C hw (zn11 hL (by decide)) k5 (by omega) rfl dX6_digest_148 ?_
                      refine zafter_l C hw (zrunS (rest := []) C hml hl.1 hw (c_X6_joinBuddle l D cy ad m H.size hL (by decide) (by omega) y5) zv_X6_246 rfl rfl rfl ⟨Nat.le_of_ble_eq_true rfl, Nat.le_of_ble_eq_true rfl⟩ rfl (Nat.le_of_ble_eq_true rfl) dX6_digest_149 ⟨Nat.zero_le _, Nat.zero_le _⟩) (fun r14 m13 H locs h12 hw => ?_)
                      obtain ⟨er14, h12⟩ := h12
                      rw [h12] at hw
                      clear h12 m13
                      refine lv_lstore_n (lv' := [(1, .long r14), (0, .ref (ad (0, 0, 0))), (3, .int (nI k5))]) hx hb dX6_digest_152 rfl hl (by decide) rfl (fun ls hl => ?_)
                      refine lv_iinc (v := (nI (k5 + 1))) (lv' := [(3, .int (nI (k5 + 1))), (1, .long r14), (0, .ref (ad (0, 0, 0)))]) hx hb dX6_digest_153 hl (k := 2) rfl (nI_1 k5) (by decide) rfl (fun ls hl => ?_)
                      refine lv_goto (tgt := 134) hx hb dX6_digest_156 (by decide) ?_
                      exact ih134 _ (by omega) (k5 + 1) r14 _ _ _ rfl (by omega) (by rw [er14, i134_2]; rfl) hw (lv_sub hl [2, 1, 0] rfl)
                  exact loop134 _ 0 y4 _ _ _ rfl (by omega) (by rw [i96_2, show k4 = hn by omega]; rfl) hw (lv_sub hl [1, 2, 0] rfl)
                · skip
                  have n15 := znle c107_7 (a := hn) (b := k4) rfl rfl (by omega) (by omega)
                  refine lv_lload_n hx hb dX6_digest_110 rfl (lv_at hl 1 rfl) ?_
                  refine lv_aload_n hx hb dX6_digest_111 rfl (lv_at hl 0 rfl) ?_
                  refine zg_X6_10 C hw (zn0 hL) dX6_digest_112 ?_
                  refine zg_X6_104 C hw (zn1 hL (by decide)) dX6_digest_115 ?_
                  refine lv_iload_n hx hb dX6_digest_118 rfl (lv_at hl 2 rfl) ?_
                  refine zafter_r C hw (zrunV (rest := [.long y4]) C hml hl.1 hw (zn8 hL (by decide)) rfl rfl (c_X1_lotAt l D cy ad m H.size hL (by decide) hfq lfq k4 (by omega)) zv_X6_121 rfl rfl rfl ⟨Nat.le_of_ble_eq_true rfl, Nat.le_of_ble_eq_true rfl⟩ rfl (Nat.le_of_ble_eq_true rfl) dX6_digest_119 ⟨Nat.zero_le _, Nat.zero_le _⟩) (fun r18 m17 H locs h16 hw => ?_)
                  obtain ⟨er18, h16⟩ := h16
                  rw [h16] at hw
                  clear h16 m17
                  subst er18
                  refine zafter_l C hw (zrunS (rest := []) C hml hl.1 hw (c_X6_joinLot l D cy ad m H.size hL (by decide) (Nat.mod_lt _ (by decide)) y4) zv_X6_238 rfl rfl rfl ⟨Nat.le_of_ble_eq_true rfl, Nat.le_of_ble_eq_true rfl⟩ rfl (Nat.le_of_ble_eq_true rfl) dX6_digest_122 ⟨Nat.zero_le _, Nat.zero_le _⟩) (fun r21 m20 H locs h19 hw => ?_)
                  obtain ⟨er21, h19⟩ := h19
                  rw [h19] at hw
                  clear h19 m20
                  refine lv_lstore_n (lv' := [(1, .long r21), (0, .ref (ad (0, 0, 0))), (3, .int (nI k4))]) hx hb dX6_digest_125 rfl hl (by decide) rfl (fun ls hl => ?_)
                  refine lv_iinc (v := (nI (k4 + 1))) (lv' := [(3, .int (nI (k4 + 1))), (1, .long r21), (0, .ref (ad (0, 0, 0)))]) hx hb dX6_digest_126 hl (k := 2) rfl (nI_1 k4) (by decide) rfl (fun ls hl => ?_)
                  refine lv_goto (tgt := 96) hx hb dX6_digest_129 (by decide) ?_
                  exact ih96 _ (by omega) (k4 + 1) r21 _ _ _ rfl (by omega) (by rw [er21, i96_2]; rfl) hw (lv_sub hl [2, 1, 0] rfl)
              exact loop96 _ 0 y3 _ _ _ rfl (by omega) (by rw [i63_2, show b3 = bc by omega]; rfl) hw (lv_sub hl [1, 2, 0] rfl)
            · skip
              have n22 := znle c71_5 (a := bc) (b := b3) rfl rfl (by omega) (by omega)
              refine lv_lload_n hx hb dX6_digest_74 rfl (lv_at hl 1 rfl) ?_
              refine lv_aload_n hx hb dX6_digest_75 rfl (lv_at hl 0 rfl) ?_
              refine zg_X6_10 C hw (zn0 hL) dX6_digest_76 ?_
              refine zg_X6_230 C hw (zn1 hL (by decide)) dX6_digest_79 ?_
              refine lv_iload_n hx hb dX6_digest_82 rfl (lv_at hl 2 rfl) ?_
              refine zald_3N C hw (zn3 hL (by decide)) b3 (by omega) rfl dX6_digest_83 ?_
              refine zafter_l C hw (zrunS (rest := []) C hml hl.1 hw (c_X6_joinBox l D cy ad m H.size hL (by decide) (by omega) (hbx b3 (by omega)).1 (hbx b3 (by omega)).2.1 y3) zv_X6_234 rfl rfl rfl ⟨Nat.le_of_ble_eq_true rfl, Nat.le_of_ble_eq_true rfl⟩ rfl (Nat.le_of_ble_eq_true rfl) dX6_digest_84 ⟨Nat.zero_le _, Nat.zero_le _⟩) (fun r25 m24 H locs h23 hw => ?_)
              obtain ⟨er25, h23⟩ := h23
              rw [h23] at hw
              clear h23 m24
              refine lv_lstore_n (lv' := [(1, .long r25), (0, .ref (ad (0, 0, 0))), (3, .int (nI b3))]) hx hb dX6_digest_87 rfl hl (by decide) rfl (fun ls hl => ?_)
              refine lv_iinc (v := (nI (b3 + 1))) (lv' := [(3, .int (nI (b3 + 1))), (1, .long r25), (0, .ref (ad (0, 0, 0)))]) hx hb dX6_digest_88 hl (k := 2) rfl (nI_1 b3) (by decide) rfl (fun ls hl => ?_)
              refine lv_goto (tgt := 63) hx hb dX6_digest_91 (by decide) ?_
              exact ih63 _ (by omega) (b3 + 1) r25 _ _ _ rfl (by omega) (by rw [er25, i63_2]; rfl) hw (lv_sub hl [2, 1, 0] rfl)
          exact loop63 _ 0 y2 _ _ _ rfl (by omega) (by rw [i34_2, show k2 = 24 by omega]; rfl) hw (lv_sub hl [1, 2, 0] rfl)
        · skip
          have n26 := znle c37_3 (a := 24) (b := k2) rfl rfl (by omega) (by omega)
          refine lv_lload_n hx hb dX6_digest_40 rfl (lv_at hl 1 rfl) ?_
          refine lv_aload_n hx hb dX6_digest_41 rfl (lv_at hl 0 rfl) ?_
          refine zg_X6_10 C hw (zn0 hL) dX6_digest_42 ?_
          refine zg_X6_31 C hw (zn1 hL (by decide)) dX6_digest_45 ?_
          refine lv_iload_n hx hb dX6_digest_48 rfl (lv_at hl 2 rfl) ?_
          refine zaldN C hw (zn2 hL (by decide)) k2 (by omega) rfl (by decide) dX6_digest_49 ?_
          refine lv_i2l hx hb dX6_digest_50 rfl ?_
          refine zafter_l C hw (zrunS (rest := []) C hml hl.1 hw (c_X6_join l D cy ad m H.size y2 ((m (2, 0, 24) k2).toInt64)) zv_X6_226 rfl rfl rfl ⟨Nat.le_of_ble_eq_true rfl, Nat.le_of_ble_eq_true rfl⟩ rfl (Nat.le_of_ble_eq_true rfl) dX6_digest_51 ⟨Nat.zero_le _, Nat.zero_le _⟩) (fun r29 m28 H locs h27 hw => ?_)
          obtain ⟨er29, h27⟩ := h27
          rw [h27] at hw
          clear h27 m28
          refine lv_lstore_n (lv' := [(1, .long r29), (0, .ref (ad (0, 0, 0))), (3, .int (nI k2))]) hx hb dX6_digest_54 rfl hl (by decide) rfl (fun ls hl => ?_)
          refine lv_iinc (v := (nI (k2 + 1))) (lv' := [(3, .int (nI (k2 + 1))), (1, .long r29), (0, .ref (ad (0, 0, 0)))]) hx hb dX6_digest_55 hl (k := 2) rfl (nI_1 k2) (by decide) rfl (fun ls hl => ?_)
          refine lv_goto (tgt := 34) hx hb dX6_digest_58 (by decide) ?_
          exact ih34 _ (by omega) (k2 + 1) r29 _ _ _ rfl (by omega) (by rw [er29, i34_2]; rfl) hw (lv_sub hl [2, 1, 0] rfl)
      exact loop34 _ 0 y1 _ _ _ rfl (by omega) (by rw [i6_2, show k1 = 14 by omega]; rfl) hw (lv_sub hl [1, 2, 0] rfl)
    · skip
      have n30 := znle c9_1 (a := 14) (b := k1) rfl rfl (by omega) (by omega)
      refine lv_lload_n hx hb dX6_digest_12 rfl (lv_at hl 1 rfl) ?_
      refine lv_aload_n hx hb dX6_digest_13 rfl (lv_at hl 0 rfl) ?_
      refine zg_X6_10 C hw (zn0 hL) dX6_digest_14 ?_
      refine lv_iload_n hx hb dX6_digest_17 rfl (lv_at hl 2 rfl) ?_
      refine zafter_i C hw (zrunV (rest := [.long y1]) C hml hl.1 hw (zn1 hL (by decide)) rfl rfl (c_X5_tellOfWorks l D cy ad m H.size hL (by decide) G hfq lfq hhn lhn (nI k1)) zv_X6_142 rfl rfl rfl ⟨Nat.le_of_ble_eq_true rfl, Nat.le_of_ble_eq_true rfl⟩ rfl (Nat.le_of_ble_eq_true rfl) dX6_digest_18 ⟨Nat.zero_le _, Nat.zero_le _⟩) (fun r33 m32 H locs h31 hw => ?_)
      obtain ⟨er33, h31⟩ := h31
      rw [h31] at hw
      clear h31 m32
      refine lv_i2l hx hb dX6_digest_21 rfl ?_
      refine zafter_l C hw (zrunS (rest := []) C hml hl.1 hw (c_X6_join l D cy ad m H.size y1 (r33.toInt64)) zv_X6_226 rfl rfl rfl ⟨Nat.le_of_ble_eq_true rfl, Nat.le_of_ble_eq_true rfl⟩ rfl (Nat.le_of_ble_eq_true rfl) dX6_digest_22 ⟨Nat.zero_le _, Nat.zero_le _⟩) (fun r36 m35 H locs h34 hw => ?_)
      obtain ⟨er36, h34⟩ := h34
      rw [h34] at hw
      clear h34 m35
      refine lv_lstore_n (lv' := [(1, .long r36), (0, .ref (ad (0, 0, 0))), (3, .int (nI k1))]) hx hb dX6_digest_25 rfl hl (by decide) rfl (fun ls hl => ?_)
      refine lv_iinc (v := (nI (k1 + 1))) (lv' := [(3, .int (nI (k1 + 1))), (1, .long r36), (0, .ref (ad (0, 0, 0)))]) hx hb dX6_digest_26 hl (k := 2) rfl (nI_1 k1) (by decide) rfl (fun ls hl => ?_)
      refine lv_goto (tgt := 6) hx hb dX6_digest_29 (by decide) ?_
      exact ih6 _ (by omega) (k1 + 1) r36 _ _ _ rfl (by omega) (by rw [er36, er33, i6_2]; rfl) hw (lv_sub hl [2, 1, 0] rfl)
  exact loop6 _ 0 499 _ _ _ rfl (by omega) rfl hw (lv_sub hl [2, 1, 0] rfl)
