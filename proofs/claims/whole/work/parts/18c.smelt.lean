
set_option maxHeartbeats 4000000 in
set_option maxRecDepth 100000 in
theorem c_X8_smelt (l : Launch) (D : va_G) (cy : Nat → ClassId) (ad : ZN → Nat) (m : ZM) (sz : Nat) {L : List ZN} (hL : zL L) (hn1 : (2, 71, 2) ∉ L) (x : Int32) : Met l yX8_smelt (zws yX8_smelt cX8_smelt 4 (some .int)) ({ frames := 2, cells := 1, slots := 2, locals := 49 } : Room) (zPc D cy ad L m sz [.ref (ad (12, 0, 0)), .int x]) (zQi (fun r m1 => r = (q8_smelt m x).1 ∧ m1 = (q8_smelt m x).2) D cy ad L sz) 1 2 (zA ad L sz) := by
  refine zopen (Qc := fun sz => zQi (fun r m1 => r = (q8_smelt m x).1 ∧ m1 = (q8_smelt m x).2) D cy ad L sz) RX8 (plainFor_of_name (by decide)) rfl (Nat.le_of_ble_eq_true rfl) ?_
  intro p e s mi below meth c ls C hr hlocks hml hl H locs hw
  obtain ⟨hx, hb, hts, hown, hK, hNw⟩ := id C
  have hl : lv_has ls 4 [(0, .ref (ad (12, 0, 0))), (1, .int x)] := hl
  refine lv_aload_n hx hb dX8_smelt_0 rfl (lv_at hl 0 rfl) ?_
  refine lv_iconst (v := 0) hx hb dX8_smelt_1 (by decide) ?_
  refine zp_X8_23 C hw (zn12 hL) dX8_smelt_2 (fun H locs m1 em1 hw => ?_)
  refine lv_iload_n hx hb dX8_smelt_5 rfl (lv_at hl 1 rfl) ?_
  refine lv_iconst (v := 1) hx hb dX8_smelt_6 (by decide) ?_
  refine lv_icmp_ge (tgt := 16) hx hb dX8_smelt_7 (by decide) (fun c7_2 => ?_) (fun c7_2 => ?_)
  · skip
    refine lv_iload_n hx hb dX8_smelt_16 rfl (lv_at hl 1 rfl) ?_
    refine lv_aload_n hx hb dX8_smelt_17 rfl (lv_at hl 0 rfl) ?_
    refine zg_X8_19 C hw (zn12 hL) dX8_smelt_18 ?_
    refine lv_iconst (v := 0) hx hb dX8_smelt_21 (by decide) ?_
    refine zaldN C hw (zn2s hL) 0 (by omega) rfl (by decide) dX8_smelt_22 ?_
    refine lv_aload_n hx hb dX8_smelt_23 rfl (lv_at hl 0 rfl) ?_
    refine zg_X8_19 C hw (zn12 hL) dX8_smelt_24 ?_
    refine lv_iconst (v := 1) hx hb dX8_smelt_27 (by decide) ?_
    refine zaldN C hw (zn2s hL) 1 (by omega) rfl (by decide) dX8_smelt_28 ?_
    refine lv_iadd hx hb dX8_smelt_29 ?_
    refine lv_icmp_le (tgt := 39) hx hb dX8_smelt_30 (by decide) (fun c30_3 => ?_) (fun c30_3 => ?_)
    · skip
      have hn0 := hn1
      refine lv_iconst (v := 2) hx hb dX8_smelt_39 (by decide) ?_
      refine znewa (id := 71) (len := 2) C hw hn0 (by decide) rfl (by decide) zW_int (Nat.le_of_ble_eq_true rfl) (Nat.le_of_ble_eq_true rfl) dX8_smelt_40 (fun ad1 H m4 em4 hsame hfresh hw => ?_)
      have hL : zL (L ++ [(2, 71, 2)]) := fun n hn => List.mem_append_left _ (hL n hn)
      have hm4 : ∀ n : ZN, n ≠ (2, 71, 2) → m4 n = m1 n := fun n hn => by rw [em4]; exact zu_ne hn
      rw [← hsame (12, 0, 0) (by decide)] at hl
      refine lv_astore_n (lv' := [(2, .ref (ad1 (2, 71, 2))), (0, .ref (ad1 (12, 0, 0))), (1, .int x)]) hx hb dX8_smelt_42 rfl hl (by decide) rfl (fun ls hl => ?_)
      refine lv_aload_n hx hb dX8_smelt_43 rfl (lv_at hl 1 rfl) ?_
      refine zg_X8_19 C hw (zn12 hL) dX8_smelt_44 ?_
      refine lv_iconst (v := 0) hx hb dX8_smelt_47 (by decide) ?_
      refine lv_aload_n hx hb dX8_smelt_48 rfl (lv_at hl 0 rfl) ?_
      refine lv_iconst (v := 0) hx hb dX8_smelt_49 (by decide) ?_
      refine lv_iload_n hx hb dX8_smelt_50 rfl (lv_at hl 2 rfl) ?_
      refine zafter_v C hw (zrunS (rest := []) C hml hl.1 hw (c_X7_move l D cy ad1 m4 H.size (zn2s hL) (by decide) (List.mem_append_right _ (List.mem_singleton.mpr rfl)) (by decide) 0 0 (by decide) (by decide) x) zv_X8_153 rfl rfl rfl ⟨Nat.le_of_ble_eq_true rfl, Nat.le_of_ble_eq_true rfl⟩ rfl (Nat.le_of_ble_eq_true rfl) dX8_smelt_51 ⟨Nat.le_of_ble_eq_true rfl, Nat.le_of_ble_eq_true rfl⟩) (fun m6 H locs h5 hw => ?_)
      have em6 := h5
      have f1 : m6 (2, 71, 2) 0 = 0 + (x - q_tinOf (m1 (2, 60, 2) 0) (m1 (2, 60, 2) 1) x) := by rw [em6]; exact q8_taken0 em4
      have f2 : m6 (2, 71, 2) 1 = 0 + q_tinOf (m1 (2, 60, 2) 0) (m1 (2, 60, 2) 1) x := by rw [em6]; exact q8_taken1 em4
      have f3 : ∀ k : ZN, k ≠ (2, 71, 2) → m6 k = q8_take m1 x k := fun k hk => by rw [em6]; exact q8_taken2 em4 hk
      refine lv_aload_n hx hb dX8_smelt_54 rfl (lv_at hl 0 rfl) ?_
      refine lv_iconst (v := 0) hx hb dX8_smelt_55 (by decide) ?_
      refine zaldN C hw (List.mem_append_right _ (List.mem_singleton.mpr rfl)) 0 (by omega) rfl (by decide) dX8_smelt_56 ?_
      refine ztop f1 ?_
      refine lv_i2l hx hb dX8_smelt_57 rfl ?_
      refine lv_aload_n hx hb dX8_smelt_58 rfl (lv_at hl 0 rfl) ?_
      refine lv_iconst (v := 1) hx hb dX8_smelt_59 (by decide) ?_
      refine zaldN C hw (List.mem_append_right _ (List.mem_singleton.mpr rfl)) 1 (by omega) rfl (by decide) dX8_smelt_60 ?_
      refine ztop f2 ?_
      refine lv_i2l hx hb dX8_smelt_61 rfl ?_
      refine zafter_i C hw (zrunS (rest := []) C hml hl.1 hw (c_X8_grade l D cy ad1 m6 H.size (0 + (x - q_tinOf (m1 (2, 60, 2) 0) (m1 (2, 60, 2) 1) x)).toInt64 (0 + q_tinOf (m1 (2, 60, 2) 0) (m1 (2, 60, 2) 1) x).toInt64) zv_X8_132 rfl rfl rfl ⟨Nat.le_of_ble_eq_true rfl, Nat.le_of_ble_eq_true rfl⟩ rfl (Nat.le_of_ble_eq_true rfl) dX8_smelt_62 ⟨Nat.le_of_ble_eq_true rfl, Nat.le_of_ble_eq_true rfl⟩) (fun r10 m9 H locs h8 hw => ?_)
      obtain ⟨er10, h8⟩ := h8
      rw [h8] at hw
      clear h8 m9
      refine lv_sipush (v := 400) hx hb dX8_smelt_65 (by decide) ?_
      refine lv_icmp_lt (tgt := 83) hx hb dX8_smelt_68 (by decide) (fun c68_11 => ?_) (fun c68_11 => ?_)
      · skip
        rw [er10] at c68_11
        refine lv_iconst (v := 0) hx hb dX8_smelt_83 (by decide) ?_
        refine lv_istore_n (lv' := [(3, .int 0), (2, .ref (ad1 (2, 71, 2))), (0, .ref (ad1 (12, 0, 0))), (1, .int x)]) hx hb dX8_smelt_84 rfl hl (by decide) rfl (fun ls hl => ?_)
        refine lv_aload_n hx hb dX8_smelt_85 rfl (lv_at hl 2 rfl) ?_
        refine lv_dup hx hb dX8_smelt_86 rfl ?_
        refine zg_X8_118 C hw (zn12 hL) dX8_smelt_87 ?_
        refine ztop ((congrFun (f3 (12, 0, 0) (by decide)) 6).trans (q8_take_k (zk rfl) 6)) ?_
        refine lv_iload_n hx hb dX8_smelt_90 rfl (lv_at hl 0 rfl) ?_
        refine lv_iadd hx hb dX8_smelt_91 ?_
        refine zp_X8_118 C hw (zn12 hL) dX8_smelt_92 (fun H locs m12 em12 hw => ?_)
        have hw := zH_drop (n0 := (2, 71, 2)) (m := zs (q8_take m1 x) (12, 0, 0) 6 (m1 (12, 0, 0) 6 + 0)) ⟨rfl, Or.inr rfl⟩ hn1 hsame hfresh (fun k hk => by rw [em12]; exact zs_cong (f3 k hk)) hw
        refine lv_iload_n hx hb dX8_smelt_95 rfl (lv_at hl 0 rfl) ?_
        refine W.widen (k := 1) (n := 2) (by omega) (by omega) ?_
        exact zret_i C hr hlocks hw dX8_smelt_96 (by subst em1; exact zpair (q8_smelt_a c7_2 c30_3 c68_11))
      · skip
        rw [er10] at c68_11
        refine lv_aload_n hx hb dX8_smelt_71 rfl (lv_at hl 0 rfl) ?_
        refine lv_iconst (v := 1) hx hb dX8_smelt_72 (by decide) ?_
        refine zaldN C hw (List.mem_append_right _ (List.mem_singleton.mpr rfl)) 1 (by omega) rfl (by decide) dX8_smelt_73 ?_
        refine ztop f2 ?_
        refine lv_bipush (v := 9) hx hb dX8_smelt_74 (by decide) ?_
        refine lv_imul hx hb dX8_smelt_76 ?_
        refine lv_bipush (v := 10) hx hb dX8_smelt_77 (by decide) ?_
        refine lv_idiv hx hb dX8_smelt_79 (by decide) ?_
        refine lv_goto (tgt := 84) hx hb dX8_smelt_80 (by decide) ?_
        refine lv_topi (fun x13 ex13 => ?_)
        refine lv_istore_n (lv' := [(3, .int x13), (2, .ref (ad1 (2, 71, 2))), (0, .ref (ad1 (12, 0, 0))), (1, .int x)]) hx hb dX8_smelt_84 rfl hl (by decide) rfl (fun ls hl => ?_)
        refine lv_aload_n hx hb dX8_smelt_85 rfl (lv_at hl 2 rfl) ?_
        refine lv_dup hx hb dX8_smelt_86 rfl ?_
        refine zg_X8_118 C hw (zn12 hL) dX8_smelt_87 ?_
        refine ztop ((congrFun (f3 (12, 0, 0) (by decide)) 6).trans (q8_take_k (zk rfl) 6)) ?_
        refine lv_iload_n hx hb dX8_smelt_90 rfl (lv_at hl 0 rfl) ?_
        refine lv_iadd hx hb dX8_smelt_91 ?_
        refine zp_X8_118 C hw (zn12 hL) dX8_smelt_92 (fun H locs m14 em14 hw => ?_)
        have hw := zH_drop (n0 := (2, 71, 2)) (m := zs (q8_take m1 x) (12, 0, 0) 6 (m1 (12, 0, 0) 6 + x13)) ⟨rfl, Or.inr rfl⟩ hn1 hsame hfresh (fun k hk => by rw [em14]; exact zs_cong (f3 k hk)) hw
        refine lv_iload_n hx hb dX8_smelt_95 rfl (lv_at hl 0 rfl) ?_
        refine W.widen (k := 1) (n := 2) (by omega) (by omega) ?_
        exact zret_i C hr hlocks hw dX8_smelt_96 (by subst em1 ex13; exact zpair (q8_smelt_b c7_2 c30_3 c68_11))
    · skip
      refine lv_aload_n hx hb dX8_smelt_33 rfl (lv_at hl 0 rfl) ?_
      refine lv_iconst (v := 2) hx hb dX8_smelt_34 (by decide) ?_
      refine zafter_i C hw (zrunV (rest := []) C hml hl.1 hw (zn12 hL) rfl rfl (c_X8_no l D cy ad m1 H.size hL 2) zv_X8_31 rfl rfl rfl ⟨Nat.le_of_ble_eq_true rfl, Nat.le_of_ble_eq_true rfl⟩ rfl (Nat.le_of_ble_eq_true rfl) dX8_smelt_35 ⟨Nat.zero_le _, Nat.zero_le _⟩) (fun r17 m16 H locs h15 hw => ?_)
      obtain ⟨er17, em16⟩ := h15
      refine W.widen (k := 1) (n := 2) (by omega) (by omega) ?_
      exact zret_i C hr hlocks hw dX8_smelt_38 (by subst_vars; exact zpair ((if_pos c7_2).trans (if_neg c30_3)))
  · skip
    refine lv_aload_n hx hb dX8_smelt_10 rfl (lv_at hl 0 rfl) ?_
    refine lv_iconst (v := 1) hx hb dX8_smelt_11 (by decide) ?_
    refine zafter_i C hw (zrunV (rest := []) C hml hl.1 hw (zn12 hL) rfl rfl (c_X8_no l D cy ad m1 H.size hL 1) zv_X8_31 rfl rfl rfl ⟨Nat.le_of_ble_eq_true rfl, Nat.le_of_ble_eq_true rfl⟩ rfl (Nat.le_of_ble_eq_true rfl) dX8_smelt_12 ⟨Nat.zero_le _, Nat.zero_le _⟩) (fun r20 m19 H locs h18 hw => ?_)
    obtain ⟨er20, em19⟩ := h18
    refine W.widen (k := 1) (n := 2) (by omega) (by omega) ?_
    exact zret_i C hr hlocks hw dX8_smelt_15 (by subst_vars; exact zpair (if_neg c7_2))
