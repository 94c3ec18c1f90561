
set_option maxHeartbeats 4000000 in
set_option maxRecDepth 100000 in
theorem c_X8_again (l : Launch) (D : va_G) (cy : Nat → ClassId) (ad : ZN → Nat) (m : ZM) (sz : Nat) {L : List ZN} (hL : zL L) (b : Int32) : Met l yX8_again (zws yX8_again cX8_again 3 (some .int)) ({ frames := 2, cells := 0, slots := 0, locals := 49 } : Room) (zPc D cy ad L m sz [.ref (ad (12, 0, 0)), .int b]) (zQi (fun r m1 => r = (q8_again m b).1 ∧ m1 = (q8_again m b).2) D cy ad L sz) 0 0 (zA ad L sz) := by
  refine zopen (Qc := fun sz => zQi (fun r m1 => r = (q8_again m b).1 ∧ m1 = (q8_again m b).2) D cy ad L sz) RX8 (plainFor_of_name (by decide)) rfl (Nat.le_of_ble_eq_true rfl) ?_
  intro p e s mi below meth c ls C hr hlocks hml hl H locs hw
  obtain ⟨hx, hb, hts, hown, hK, hNw⟩ := id C
  have hl : lv_has ls 3 [(0, .ref (ad (12, 0, 0))), (1, .int b)] := hl
  refine lv_aload_n hx hb dX8_again_0 rfl (lv_at hl 0 rfl) ?_
  refine lv_iconst (v := 0) hx hb dX8_again_1 (by decide) ?_
  refine zp_X8_23 C hw (zn12 hL) dX8_again_2 (fun H locs m1 em1 hw => ?_)
  refine lv_iload_n hx hb dX8_again_5 rfl (lv_at hl 1 rfl) ?_
  refine lv_iconst (v := 0) hx hb dX8_again_6 (by decide) ?_
  refine lv_iconst (v := 2) hx hb dX8_again_7 (by decide) ?_
  refine zafter_i C hw (zrunS (rest := []) C hml hl.1 hw (c_X8_isIn l D cy ad m1 H.size b 0 2) zv_X8_27 rfl rfl rfl ⟨Nat.le_of_ble_eq_true rfl, Nat.le_of_ble_eq_true rfl⟩ rfl (Nat.le_of_ble_eq_true rfl) dX8_again_8 ⟨Nat.zero_le _, Nat.zero_le _⟩) (fun r4 m3 H locs h2 hw => ?_)
  obtain ⟨er4, h2⟩ := h2
  rw [h2] at hw
  clear h2 m3
  refine lv_if_ne (tgt := 20) hx hb dX8_again_11 (by decide) (fun c11_5 => ?_) (fun c11_5 => ?_)
  · skip
    rw [er4] at c11_5
    obtain ⟨ub, ubl, ubu⟩ := q_isIn_ok (x := b) (a := 0) (b := 2) (by decide) (by decide) (fun q => c11_5 q)
    refine lv_aload_n hx hb dX8_again_20 rfl (lv_at hl 0 rfl) ?_
    refine zg_X8_19 C hw (zn12 hL) dX8_again_21 ?_
    refine lv_iconst (v := 0) hx hb dX8_again_24 (by decide) ?_
    refine zaldN C hw (zn2s hL) 0 (by omega) rfl (by decide) dX8_again_25 ?_
    refine lv_aload_n hx hb dX8_again_26 rfl (lv_at hl 0 rfl) ?_
    refine zg_X8_19 C hw (zn12 hL) dX8_again_27 ?_
    refine lv_iconst (v := 1) hx hb dX8_again_30 (by decide) ?_
    refine zaldN C hw (zn2s hL) 1 (by omega) rfl (by decide) dX8_again_31 ?_
    refine lv_iadd hx hb dX8_again_32 ?_
    refine lv_sipush (v := 6000) hx hb dX8_again_33 (by decide) ?_
    refine lv_aload_n hx hb dX8_again_36 rfl (lv_at hl 0 rfl) ?_
    refine zg_X8_10 C hw (zn12 hL) dX8_again_37 ?_
    refine lv_iload_n hx hb dX8_again_40 rfl (lv_at hl 1 rfl) ?_
    refine W.eq (congrArg (fun z : Int32 => F0 mi 41 ls [.int z, .ref (ad (13, 0, 0)), .int 6000, .int ((m1 (2, 60, 2) 0) + (m1 (2, 60, 2) 1))]) (show b = nI b.toNatClampNeg from ub)) ?_
    refine zafter_i C hw (zrunV (rest := [.int 6000, .int ((m1 (2, 60, 2) 0) + (m1 (2, 60, 2) 1))]) C hml hl.1 hw (zn13 hL (by decide)) rfl rfl (c_X7_inBuddle l D cy ad m1 H.size hL (by decide) b.toNatClampNeg (by omega)) zv_X8_139 rfl rfl rfl ⟨Nat.le_of_ble_eq_true rfl, Nat.le_of_ble_eq_true rfl⟩ rfl (Nat.le_of_ble_eq_true rfl) dX8_again_41 ⟨Nat.zero_le _, Nat.zero_le _⟩) (fun r8 m7 H locs h6 hw => ?_)
    obtain ⟨er8, h6⟩ := h6
    rw [h6] at hw
    clear h6 m7
    refine lv_isub hx hb dX8_again_44 ?_
    refine va_mmin hx hb (hml.trans hl.1.symm) hown (hts _ zL_X8_148) (hts _ zT_min) (hts _ zN_Math) (hts _ zO_min) (Nat.le_of_ble_eq_true rfl) (Nat.le_of_ble_eq_true rfl) (Nat.zero_le _) (Nat.zero_le _) dX8_again_45 ?_
    refine lv_topi (fun x9 ex9 => ?_)
    refine lv_istore_n (lv' := [(2, .int x9), (0, .ref (ad (12, 0, 0))), (1, .int b)]) hx hb dX8_again_48 rfl hl (by decide) rfl (fun ls hl => ?_)
    refine lv_aload_n hx hb dX8_again_49 rfl (lv_at hl 1 rfl) ?_
    refine zg_X8_19 C hw (zn12 hL) dX8_again_50 ?_
    refine lv_iconst (v := 0) hx hb dX8_again_53 (by decide) ?_
    refine lv_aload_n hx hb dX8_again_54 rfl (lv_at hl 1 rfl) ?_
    refine zg_X8_10 C hw (zn12 hL) dX8_again_55 ?_
    refine zg_X8_129 C hw (zn13 hL (by decide)) dX8_again_58 ?_
    refine lv_iconst (v := 2) hx hb dX8_again_61 (by decide) ?_
    refine lv_iload_n hx hb dX8_again_62 rfl (lv_at hl 2 rfl) ?_
    refine lv_imul hx hb dX8_again_63 ?_
    refine lv_iload_n hx hb dX8_again_64 rfl (lv_at hl 0 rfl) ?_
    refine W.eq (congrArg (fun z : Int32 => F0 mi 65 ls [.int x9, .int z, .ref (ad (2, 21 + 20 * 0, 6)), .int 0, .ref (ad (2, 60, 2))]) (show (2 * b) = nI (2 * b.toNatClampNeg) from (zmul rfl ub))) ?_
    refine zafter_v C hw (zrunS (rest := []) C hml hl.1 hw (c_X7_move l D cy ad m1 H.size (zn2s hL) (by decide) (zq21 (w := 0) hL (by decide)) (by decide) 0 (2 * b.toNatClampNeg) (by omega) (by omega) x9) zv_X8_153 rfl rfl rfl ⟨Nat.le_of_ble_eq_true rfl, Nat.le_of_ble_eq_true rfl⟩ rfl (Nat.le_of_ble_eq_true rfl) dX8_again_65 ⟨Nat.zero_le _, Nat.zero_le _⟩) (fun m11 H locs h10 hw => ?_)
    have em11 := h10
    refine lv_iload_n hx hb dX8_again_68 rfl (lv_at hl 0 rfl) ?_
    exact zret_i C hr hlocks hw dX8_again_69 (by subst_vars; exact zpair (if_neg c11_5))
  · skip
    rw [er4] at c11_5
    refine lv_aload_n hx hb dX8_again_14 rfl (lv_at hl 0 rfl) ?_
    refine lv_iconst (v := 1) hx hb dX8_again_15 (by decide) ?_
    refine zafter_i C hw (zrunV (rest := []) C hml hl.1 hw (zn12 hL) rfl rfl (c_X8_no l D cy ad m1 H.size hL 1) zv_X8_31 rfl rfl rfl ⟨Nat.le_of_ble_eq_true rfl, Nat.le_of_ble_eq_true rfl⟩ rfl (Nat.le_of_ble_eq_true rfl) dX8_again_16 ⟨Nat.zero_le _, Nat.zero_le _⟩) (fun r15 m14 H locs h13 hw => ?_)
    obtain ⟨er15, em14⟩ := h13
    exact zret_i C hr hlocks hw dX8_again_19 (by subst_vars; exact zpair (if_pos c11_5))
