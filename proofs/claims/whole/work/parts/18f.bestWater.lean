
set_option maxHeartbeats 4000000 in
set_option maxRecDepth 100000 in
theorem c_X8_bestWater (l : Launch) (D : va_G) (cy : Nat → ClassId) (ad : ZN → Nat) (m : ZM) (sz : Nat) {L : List ZN} (hL : zL L) (b x : Int32) : Met l yX8_bestWater (zws yX8_bestWater cX8_bestWater 7 (some .int)) ({ frames := 1, cells := 0, slots := 0, locals := 23 } : Room) (zPc D cy ad L m sz [.ref (ad (12, 0, 0)), .int b, .int x]) (zQi (fun r m1 => r = (q8_bestWater m b x).1 ∧ m1 = (q8_bestWater m b x).2) D cy ad L sz) 0 0 (zA ad L sz) := by
  refine zopen (Qc := fun sz => zQi (fun r m1 => r = (q8_bestWater m b x).1 ∧ m1 = (q8_bestWater m b x).2) D cy ad L sz) RX8 (plainFor_of_name (by decide)) rfl (Nat.le_of_ble_eq_true rfl) ?_
  intro p e s mi below meth c ls C hr hlocks hml hl H locs hw
  obtain ⟨hx, hb, hts, hown, hK, hNw⟩ := id C
  have hl : lv_has ls 7 [(0, .ref (ad (12, 0, 0))), (1, .int b), (2, .int x)] := hl
  refine lv_aload_n hx hb dX8_bestWater_0 rfl (lv_at hl 0 rfl) ?_
  refine lv_iconst (v := 0) hx hb dX8_bestWater_1 (by decide) ?_
  refine zp_X8_23 C hw (zn12 hL) dX8_bestWater_2 (fun H locs m1 em1 hw => ?_)
  refine lv_iload_n hx hb dX8_bestWater_5 rfl (lv_at hl 1 rfl) ?_
  refine lv_iconst (v := 0) hx hb dX8_bestWater_6 (by decide) ?_
  refine lv_iconst (v := 2) hx hb dX8_bestWater_7 (by decide) ?_
  refine zafter_i C hw (zrunS (rest := []) C hml hl.1 hw (c_X8_isIn l D cy ad m1 H.size b 0 2) zv_X8_27 rfl rfl rfl ⟨Nat.le_of_ble_eq_true rfl, Nat.le_of_ble_eq_true rfl⟩ rfl (Nat.le_of_ble_eq_true rfl) dX8_bestWater_8 ⟨Nat.zero_le _, Nat.zero_le _⟩) (fun r4 m3 H locs h2 hw => ?_)
  obtain ⟨er4, h2⟩ := h2
  rw [h2] at hw
  clear h2 m3
  refine lv_if_ne (tgt := 20) hx hb dX8_bestWater_11 (by decide) (fun c11_5 => ?_) (fun c11_5 => ?_)
  · skip
    rw [er4] at c11_5
    obtain ⟨ub, ubl, ubu⟩ := q_isIn_ok (x := b) (a := 0) (b := 2) (by decide) (by decide) (fun q => c11_5 q)
    refine lv_iload_n hx hb dX8_bestWater_20 rfl (lv_at hl 2 rfl) ?_
    refine lv_if_ge (tgt := 30) hx hb dX8_bestWater_21 (by decide) (fun c21_6 => ?_) (fun c21_6 => ?_)
    · skip
      refine lv_iconst (v := (-1)) hx hb dX8_bestWater_30 (by decide) ?_
      refine lv_topi (fun x7 ex7 => ?_)
      refine lv_istore_n (lv' := [(3, .int x7), (0, .ref (ad (12, 0, 0))), (1, .int b), (2, .int x)]) hx hb dX8_bestWater_31 rfl hl (by decide) rfl (fun ls hl => ?_)
      refine lv_iconst (v := (-1)) hx hb dX8_bestWater_32 (by decide) ?_
      refine lv_topi (fun x8 ex8 => ?_)
      refine lv_istore (lv' := [(4, .int x8), (3, .int x7), (0, .ref (ad (12, 0, 0))), (1, .int b), (2, .int x)]) hx hb dX8_bestWater_33 hl (by decide) rfl (fun ls hl => ?_)
      refine lv_bipush (v := 10) hx hb dX8_bestWater_35 (by decide) ?_
      refine lv_istore (lv' := [(5, .int 10), (4, .int x8), (3, .int x7), (0, .ref (ad (12, 0, 0))), (1, .int b), (2, .int x)]) hx hb dX8_bestWater_37 hl (by decide) rfl (fun ls hl => ?_)
      have loop39 : ∀ (z : Nat) (k : Nat) (x3 x4 : Int32) (H : Heap) (locs : List Loc) (ls : Array Slot), 91 - k = z → (10 ≤ k) → (k ≤ 91) → ((x3, x4) = q8_bwS m1 b.toNatClampNeg x (k - 10)) → (k = 10 ∨ ¬ q_pair m1 (2, 21 + 20 * 0, 6) (2 * b.toNatClampNeg) ≤ 0) → zH D cy ad L s.heap H locs m1 → lv_has ls 7 [(0, .ref (ad (12, 0, 0))), (1, .int b), (2, .int x), (3, .int x3), (4, .int x4), (5, .int (nI k))] → W p l e ({ frames := 1, cells := 0, slots := 0, locals := 23 } : Room) s mi [.ref (ad (12, 0, 0)), .int b, .int x].toArray below meth c H locs 0 0 (MQ below (zQi (fun r m1 => r = (q8_bestWater m b x).1 ∧ m1 = (q8_bestWater m b x).2) D cy ad L s.heap.size) [.ref (ad (12, 0, 0)), .int b, .int x].toArray s 0 0 (zA ad L s.heap.size)) (F0 mi 39 ls []) := by
        intro z
        induction z using Nat.strongRecOn with
        | _ z ih39 =>
        intro k x3 x4 H locs ls hz39 i39_1 i39_2 i39_3 i39_4 hw hl
        refine lv_iload hx hb dX8_bestWater_39 (lv_at hl 5 rfl) ?_
        refine lv_bipush (v := 91) hx hb dX8_bestWater_41 (by decide) ?_
        refine lv_icmp_ge (tgt := 112) hx hb dX8_bestWater_43 (by decide) (fun c43_9 => ?_) (fun c43_9 => ?_)
        · skip
          have n10 := zle c43_9 (a := 91) (b := k) rfl rfl (by omega) (by omega)
          refine lv_iload_n hx hb dX8_bestWater_112 rfl (lv_at hl 3 rfl) ?_
          exact zret_i C hr hlocks hw dX8_bestWater_113 (by have e9 := (q8_bw_e2 i39_3 (i39_4.resolve_left (by omega)) (by omega)); subst em1; exact zpair (((if_neg c11_5).trans (if_pos c21_6)).trans (Prod.ext e9.symm rfl)))
        · skip
          have n11 := znle c43_9 (a := 91) (b := k) rfl rfl (by omega) (by omega)
          refine lv_aload_n hx hb dX8_bestWater_46 rfl (lv_at hl 0 rfl) ?_
          refine zg_X8_10 C hw (zn12 hL) dX8_bestWater_47 ?_
          refine lv_iload_n hx hb dX8_bestWater_50 rfl (lv_at hl 1 rfl) ?_
          refine W.eq (congrArg (fun z : Int32 => F0 mi 51 ls [.int z, .ref (ad (13, 0, 0))]) (show b = nI b.toNatClampNeg from ub)) ?_
          refine zafter_i C hw (zrunV (rest := []) C hml hl.1 hw (zn13 hL (by decide)) rfl rfl (c_X7_inBuddle l D cy ad m1 H.size hL (by decide) b.toNatClampNeg (by omega)) zv_X8_139 rfl rfl rfl ⟨Nat.le_of_ble_eq_true rfl, Nat.le_of_ble_eq_true rfl⟩ rfl (Nat.le_of_ble_eq_true rfl) dX8_bestWater_51 ⟨Nat.zero_le _, Nat.zero_le _⟩) (fun r14 m13 H locs h12 hw => ?_)
          obtain ⟨er14, h12⟩ := h12
          rw [h12] at hw
          clear h12 m13
          refine lv_if_le (tgt := 112) hx hb dX8_bestWater_54 (by decide) (fun c54_15 => ?_) (fun c54_15 => ?_)
          · skip
            rw [er14] at c54_15
            refine lv_iload_n hx hb dX8_bestWater_112 rfl (lv_at hl 3 rfl) ?_
            exact zret_i C hr hlocks hw dX8_bestWater_113 (by have e9 := (q8_bw_e1 i39_3 i39_4 c54_15); subst em1; exact zpair (((if_neg c11_5).trans (if_pos c21_6)).trans (Prod.ext e9.symm rfl)))
          · skip
            rw [er14] at c54_15
            refine lv_aload_n hx hb dX8_bestWater_57 rfl (lv_at hl 0 rfl) ?_
            refine lv_iload_n hx hb dX8_bestWater_58 rfl (lv_at hl 1 rfl) ?_
            refine lv_iload hx hb dX8_bestWater_59 (lv_at hl 5 rfl) ?_
            refine W.eq (congrArg (fun z : Int32 => F0 mi 61 ls [.int (nI k), .int z, .ref (ad (12, 0, 0))]) (show b = nI b.toNatClampNeg from ub)) ?_
            refine zafter_i C hw (zrunV (rest := []) C hml hl.1 hw (zn12 hL) rfl rfl (c_X8_headRock l D cy ad m1 H.size hL b.toNatClampNeg (by omega) (nI k)) zv_X8_145 rfl rfl rfl ⟨Nat.le_of_ble_eq_true rfl, Nat.le_of_ble_eq_true rfl⟩ rfl (Nat.le_of_ble_eq_true rfl) dX8_bestWater_61 ⟨Nat.zero_le _, Nat.zero_le _⟩) (fun r18 m17 H locs h16 hw => ?_)
            obtain ⟨er18, h16⟩ := h16
            rw [h16] at hw
            clear h16 m17
            refine lv_i2l hx hb dX8_bestWater_64 rfl ?_
            refine lv_aload_n hx hb dX8_bestWater_65 rfl (lv_at hl 0 rfl) ?_
            refine lv_iload_n hx hb dX8_bestWater_66 rfl (lv_at hl 1 rfl) ?_
            refine lv_iload hx hb dX8_bestWater_67 (lv_at hl 5 rfl) ?_
            refine W.eq (congrArg (fun z : Int32 => F0 mi 69 ls [.int (nI k), .int z, .ref (ad (12, 0, 0)), .long r18.toInt64]) (show b = nI b.toNatClampNeg from ub)) ?_
            refine zafter_i C hw (zrunV (rest := [.long r18.toInt64]) C hml hl.1 hw (zn12 hL) rfl rfl (c_X8_headTin l D cy ad m1 H.size hL b.toNatClampNeg (by omega) (nI k)) zv_X8_142 rfl rfl rfl ⟨Nat.le_of_ble_eq_true rfl, Nat.le_of_ble_eq_true rfl⟩ rfl (Nat.le_of_ble_eq_true rfl) dX8_bestWater_69 ⟨Nat.zero_le _, Nat.zero_le _⟩) (fun r21 m20 H locs h19 hw => ?_)
            obtain ⟨er21, h19⟩ := h19
            rw [h19] at hw
            clear h19 m20
            refine lv_i2l hx hb dX8_bestWater_72 rfl ?_
            refine zafter_i C hw (zrunS (rest := []) C hml hl.1 hw (c_X8_grade l D cy ad m1 H.size r18.toInt64 r21.toInt64) zv_X8_132 rfl rfl rfl ⟨Nat.le_of_ble_eq_true rfl, Nat.le_of_ble_eq_true rfl⟩ rfl (Nat.le_of_ble_eq_true rfl) dX8_bestWater_73 ⟨Nat.zero_le _, Nat.zero_le _⟩) (fun r24 m23 H locs h22 hw => ?_)
            obtain ⟨er24, h22⟩ := h22
            rw [h22] at hw
            clear h22 m23
            refine lv_istore (lv' := [(6, .int r24), (0, .ref (ad (12, 0, 0))), (1, .int b), (2, .int x), (3, .int x3), (4, .int x4), (5, .int (nI k))]) hx hb dX8_bestWater_76 hl (by decide) rfl (fun ls hl => ?_)
            refine lv_aload_n hx hb dX8_bestWater_78 rfl (lv_at hl 1 rfl) ?_
            refine lv_iload_n hx hb dX8_bestWater_79 rfl (lv_at hl 2 rfl) ?_
            refine lv_iload hx hb dX8_bestWater_80 (lv_at hl 6 rfl) ?_
            refine W.eq (congrArg (fun z : Int32 => F0 mi 82 ls [.int (nI k), .int z, .ref (ad (12, 0, 0))]) (show b = nI b.toNatClampNeg from ub)) ?_
            refine zafter_i C hw (zrunV (rest := []) C hml hl.1 hw (zn12 hL) rfl rfl (c_X8_headTin l D cy ad m1 H.size hL b.toNatClampNeg (by omega) (nI k)) zv_X8_142 rfl rfl rfl ⟨Nat.le_of_ble_eq_true rfl, Nat.le_of_ble_eq_true rfl⟩ rfl (Nat.le_of_ble_eq_true rfl) dX8_bestWater_82 ⟨Nat.zero_le _, Nat.zero_le _⟩) (fun r27 m26 H locs h25 hw => ?_)
            obtain ⟨er27, h25⟩ := h25
            rw [h25] at hw
            clear h25 m26
            refine lv_iload_n hx hb dX8_bestWater_85 rfl (lv_at hl 3 rfl) ?_
            refine lv_icmp_lt (tgt := 106) hx hb dX8_bestWater_86 (by decide) (fun c86_28 => ?_) (fun c86_28 => ?_)
            · skip
              rw [er27] at c86_28
              refine lv_iinc (v := (nI (k + 1))) (lv' := [(5, .int (nI (k + 1))), (6, .int r24), (0, .ref (ad (12, 0, 0))), (1, .int b), (2, .int x), (3, .int x3), (4, .int x4)]) hx hb dX8_bestWater_106 hl (k := 6) rfl (nI_1 k) (by decide) rfl (fun ls hl => ?_)
              refine lv_goto (tgt := 39) hx hb dX8_bestWater_109 (by decide) ?_
              exact ih39 _ (by omega) (k + 1) x3 x4 _ _ _ rfl (by omega) (by omega) (q8_bw_a i39_3 i39_1 c86_28) (Or.inr c54_15) hw (lv_sub hl [2, 3, 4, 5, 6, 0] rfl)
            · skip
              rw [er27] at c86_28
              refine lv_iload hx hb dX8_bestWater_89 (lv_at hl 0 rfl) ?_
              refine lv_iload hx hb dX8_bestWater_91 (lv_at hl 5 rfl) ?_
              refine lv_icmp_gt (tgt := 99) hx hb dX8_bestWater_93 (by decide) (fun c93_29 => ?_) (fun c93_29 => ?_)
              · skip
                rw [er24] at c93_29
                refine lv_iload hx hb dX8_bestWater_99 (lv_at hl 0 rfl) ?_
                refine lv_istore (lv' := [(4, .int r24), (6, .int r24), (0, .ref (ad (12, 0, 0))), (1, .int b), (2, .int x), (3, .int x3), (5, .int (nI k))]) hx hb dX8_bestWater_101 hl (by decide) rfl (fun ls hl => ?_)
                refine lv_iload hx hb dX8_bestWater_103 (lv_at hl 6 rfl) ?_
                refine lv_istore_n (lv' := [(3, .int (nI k)), (4, .int r24), (6, .int r24), (0, .ref (ad (12, 0, 0))), (1, .int b), (2, .int x), (5, .int (nI k))]) hx hb dX8_bestWater_105 rfl hl (by decide) rfl (fun ls hl => ?_)
                refine lv_iinc (v := (nI (k + 1))) (lv' := [(5, .int (nI (k + 1))), (3, .int (nI k)), (4, .int r24), (6, .int r24), (0, .ref (ad (12, 0, 0))), (1, .int b), (2, .int x)]) hx hb dX8_bestWater_106 hl (k := 6) rfl (nI_1 k) (by decide) rfl (fun ls hl => ?_)
                refine lv_goto (tgt := 39) hx hb dX8_bestWater_109 (by decide) ?_
                exact ih39 _ (by omega) (k + 1) (nI k) r24 _ _ _ rfl (by omega) (by omega) (q8_bw_b i39_3 i39_1 c86_28 (er24.trans (by rw [er18, er21]; rfl)) (by rw [er24]; exact c93_29)) (Or.inr c54_15) hw (lv_sub hl [4, 5, 6, 1, 2, 0] rfl)
              · skip
                rw [er24] at c93_29
                refine lv_goto (tgt := 106) hx hb dX8_bestWater_96 (by decide) ?_
                refine lv_iinc (v := (nI (k + 1))) (lv' := [(5, .int (nI (k + 1))), (6, .int r24), (0, .ref (ad (12, 0, 0))), (1, .int b), (2, .int x), (3, .int x3), (4, .int x4)]) hx hb dX8_bestWater_106 hl (k := 6) rfl (nI_1 k) (by decide) rfl (fun ls hl => ?_)
                refine lv_goto (tgt := 39) hx hb dX8_bestWater_109 (by decide) ?_
                exact ih39 _ (by omega) (k + 1) x3 x4 _ _ _ rfl (by omega) (by omega) (q8_bw_c i39_3 i39_1 c86_28 (er24.trans (by rw [er18, er21]; rfl)) (by rw [er24]; exact c93_29)) (Or.inr c54_15) hw (lv_sub hl [2, 3, 4, 5, 6, 0] rfl)
      exact loop39 _ 10 x7 x8 _ _ _ rfl (by omega) (by omega) (by rw [ex7, ex8]; rfl) (Or.inl rfl) hw (lv_sub hl [3, 4, 5, 2, 1, 0] rfl)
    · skip
      refine lv_aload_n hx hb dX8_bestWater_24 rfl (lv_at hl 0 rfl) ?_
      refine lv_iconst (v := 2) hx hb dX8_bestWater_25 (by decide) ?_
      refine zafter_i C hw (zrunV (rest := []) C hml hl.1 hw (zn12 hL) rfl rfl (c_X8_no l D cy ad m1 H.size hL 2) zv_X8_31 rfl rfl rfl ⟨Nat.le_of_ble_eq_true rfl, Nat.le_of_ble_eq_true rfl⟩ rfl (Nat.le_of_ble_eq_true rfl) dX8_bestWater_26 ⟨Nat.zero_le _, Nat.zero_le _⟩) (fun r32 m31 H locs h30 hw => ?_)
      obtain ⟨er32, em31⟩ := h30
      exact zret_i C hr hlocks hw dX8_bestWater_29 (by subst_vars; exact zpair ((if_neg c11_5).trans (if_neg c21_6)))
  · skip
    rw [er4] at c11_5
    refine lv_aload_n hx hb dX8_bestWater_14 rfl (lv_at hl 0 rfl) ?_
    refine lv_iconst (v := 1) hx hb dX8_bestWater_15 (by decide) ?_
    refine zafter_i C hw (zrunV (rest := []) C hml hl.1 hw (zn12 hL) rfl rfl (c_X8_no l D cy ad m1 H.size hL 1) zv_X8_31 rfl rfl rfl ⟨Nat.le_of_ble_eq_true rfl, Nat.le_of_ble_eq_true rfl⟩ rfl (Nat.le_of_ble_eq_true rfl) dX8_bestWater_16 ⟨Nat.zero_le _, Nat.zero_le _⟩) (fun r35 m34 H locs h33 hw => ?_)
    obtain ⟨er35, em34⟩ := h33
    exact zret_i C hr hlocks hw dX8_bestWater_19 (by subst_vars; exact zpair (if_pos c11_5))
