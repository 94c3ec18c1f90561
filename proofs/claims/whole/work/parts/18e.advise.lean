
set_option maxHeartbeats 4000000 in
set_option maxRecDepth 100000 in
theorem c_X8_advise (l : Launch) (D : va_G) (cy : Nat → ClassId) (ad : ZN → Nat) (m : ZM) (sz : Nat) {L : List ZN} (hL : zL L) {bc : Nat} {sc go : Nat → Nat} {hq ln : Nat} (G : gM m bc sc go hq ln) (lq : hq ≤ 5000) (h : Int32) : Met l yX8_advise (zws yX8_advise cX8_advise 5 (some .int)) ({ frames := 5, cells := 0, slots := 0, locals := 122 } : Room) (zPc D cy ad L m sz [.ref (ad (12, 0, 0)), .int h]) (zQi (fun r m1 => r = (q8_advise m bc sc go hq h).1 ∧ m1 = (q8_advise m bc sc go hq h).2) D cy ad L sz) 0 0 (zA ad L sz) := by
  refine zopen (Qc := fun sz => zQi (fun r m1 => r = (q8_advise m bc sc go hq h).1 ∧ m1 = (q8_advise m bc sc go hq h).2) D cy ad L sz) RX8 (plainFor_of_name (by decide)) rfl (Nat.le_of_ble_eq_true rfl) ?_
  intro p e s mi below meth c ls C hr hlocks hml hl H locs hw
  obtain ⟨hx, hb, hts, hown, hK, hNw⟩ := id C
  have hl : lv_has ls 5 [(0, .ref (ad (12, 0, 0))), (1, .int h)] := hl
  refine lv_aload_n hx hb dX8_advise_0 rfl (lv_at hl 0 rfl) ?_
  refine lv_iconst (v := 0) hx hb dX8_advise_1 (by decide) ?_
  refine zp_X8_23 C hw (zn12 hL) dX8_advise_2 (fun H locs m1 em1 hw => ?_)
  have GM1 : gM m1 bc sc go hq ln := by rw [em1]; exact gM_t G
  obtain ⟨⟨hbc1, lbc1, hbx1, hhd1, -, hhq1, lhq1, hld1⟩, hln1, lln1⟩ := id GM1
  refine lv_iload_n hx hb dX8_advise_5 rfl (lv_at hl 1 rfl) ?_
  refine lv_iconst (v := 1) hx hb dX8_advise_6 (by decide) ?_
  refine lv_bipush (v := 48) hx hb dX8_advise_7 (by decide) ?_
  refine zafter_i C hw (zrunS (rest := []) C hml hl.1 hw (c_X8_isIn l D cy ad m1 H.size h 1 48) zv_X8_27 rfl rfl rfl ⟨Nat.le_of_ble_eq_true rfl, Nat.le_of_ble_eq_true rfl⟩ rfl (Nat.le_of_ble_eq_true rfl) dX8_advise_9 ⟨Nat.zero_le _, Nat.zero_le _⟩) (fun r4 m3 H locs h2 hw => ?_)
  obtain ⟨er4, h2⟩ := h2
  rw [h2] at hw
  clear h2 m3
  refine lv_if_ne (tgt := 21) hx hb dX8_advise_12 (by decide) (fun c12_5 => ?_) (fun c12_5 => ?_)
  · skip
    rw [er4] at c12_5
    obtain ⟨uh, uhl, uhu⟩ := q_isIn_ok (x := h) (a := 1) (b := 48) (by decide) (by decide) (fun q => c12_5 q)
    refine lv_aload_n hx hb dX8_advise_21 rfl (lv_at hl 0 rfl) ?_
    refine zg_X8_10 C hw (zn12 hL) dX8_advise_22 ?_
    refine zg_X8_93 C hw (zn13 hL (by decide)) dX8_advise_25 ?_
    refine ztop hhq1 ?_
    refine lv_iload_n hx hb dX8_advise_28 rfl (lv_at hl 1 rfl) ?_
    refine lv_iadd hx hb dX8_advise_29 ?_
    refine lv_sipush (v := 5000) hx hb dX8_advise_30 (by decide) ?_
    refine lv_icmp_le (tgt := 42) hx hb dX8_advise_33 (by decide) (fun c33_6 => ?_) (fun c33_6 => ?_)
    · skip
      have n7 := zle c33_6 (a := (hq + h.toNatClampNeg)) (b := 5000) (zadd rfl uh) rfl (by omega) (by omega)
      refine lv_iconst (v := 0) hx hb dX8_advise_42 (by decide) ?_
      refine lv_istore_n (lv' := [(2, .int 0), (0, .ref (ad (12, 0, 0))), (1, .int h)]) hx hb dX8_advise_43 rfl hl (by decide) rfl (fun ls hl => ?_)
      refine lv_iconst (v := (-1)) hx hb dX8_advise_44 (by decide) ?_
      refine lv_topi (fun x8 ex8 => ?_)
      refine lv_istore_n (lv' := [(3, .int x8), (2, .int 0), (0, .ref (ad (12, 0, 0))), (1, .int h)]) hx hb dX8_advise_45 rfl hl (by decide) rfl (fun ls hl => ?_)
      refine lv_iconst (v := 0) hx hb dX8_advise_46 (by decide) ?_
      refine lv_istore (lv' := [(4, .int 0), (3, .int x8), (2, .int 0), (0, .ref (ad (12, 0, 0))), (1, .int h)]) hx hb dX8_advise_47 hl (by decide) rfl (fun ls hl => ?_)
      have loop49 : ∀ (z : Nat) (k : Nat) (x2 x3 : Int32) (m0 : ZM) (H : Heap) (locs : List Loc) (ls : Array Slot), 21 - k = z → (k ≤ 21) → (gS m0 0 bc sc go hq) → ((m0, x2, x3) = q8_advS m1 bc sc go hq h.toNatClampNeg k) → zH D cy ad L s.heap H locs m0 → lv_has ls 5 [(0, .ref (ad (12, 0, 0))), (1, .int h), (2, .int x2), (3, .int x3), (4, .int (nI k))] → W p l e ({ frames := 5, cells := 0, slots := 0, locals := 122 } : Room) s mi [.ref (ad (12, 0, 0)), .int h].toArray below meth c H locs 0 0 (MQ below (zQi (fun r m1 => r = (q8_advise m bc sc go hq h).1 ∧ m1 = (q8_advise m bc sc go hq h).2) D cy ad L s.heap.size) [.ref (ad (12, 0, 0)), .int h].toArray s 0 0 (zA ad L s.heap.size)) (F0 mi 49 ls []) := by
        intro z
        induction z using Nat.strongRecOn with
        | _ z ih49 =>
        intro k x2 x3 m0 H locs ls hz49 i49_1 i49_2 i49_3 hw hl
        have G0 := i49_2
        refine lv_iload hx hb dX8_advise_49 (lv_at hl 4 rfl) ?_
        refine lv_bipush (v := 21) hx hb dX8_advise_51 (by decide) ?_
        refine lv_icmp_ge (tgt := 116) hx hb dX8_advise_53 (by decide) (fun c53_9 => ?_) (fun c53_9 => ?_)
        · skip
          have n10 := zle c53_9 (a := 21) (b := k) rfl rfl (by omega) (by omega)
          refine lv_iload_n hx hb dX8_advise_116 rfl (lv_at hl 2 rfl) ?_
          exact zret_i C hr hlocks hw dX8_advise_117 (by obtain rfl : k = 21 := (by omega); have e9 := i49_3; subst_vars; exact zpair (((if_neg c12_5).trans (if_pos c33_6)).trans (q8_adv_e e9)))
        · skip
          have n11 := znle c53_9 (a := 21) (b := k) rfl rfl (by omega) (by omega)
          refine lv_aload_n hx hb dX8_advise_56 rfl (lv_at hl 0 rfl) ?_
          refine zg_X8_16 C hw (zn12 hL) dX8_advise_57 ?_
          refine lv_aload_n hx hb dX8_advise_60 rfl (lv_at hl 0 rfl) ?_
          refine zg_X8_10 C hw (zn12 hL) dX8_advise_61 ?_
          refine zafter_v C hw (zrunV (rest := []) C hml hl.1 hw (zn13 hL (by decide)) rfl rfl (c_X7_become l D cy ad m0 H.size hL (by decide) (by decide)) zv_X8_157 rfl rfl rfl ⟨Nat.le_of_ble_eq_true rfl, Nat.le_of_ble_eq_true rfl⟩ rfl (Nat.le_of_ble_eq_true rfl) dX8_advise_64 ⟨Nat.zero_le _, Nat.zero_le _⟩) (fun m13 H locs h12 hw => ?_)
          have em13 := h12
          have GA : gS m13 1 bc sc go hq := by rw [em13]; exact gS_become G0
          refine lv_aload_n hx hb dX8_advise_67 rfl (lv_at hl 0 rfl) ?_
          refine zg_X8_16 C hw (zn12 hL) dX8_advise_68 ?_
          refine lv_iload hx hb dX8_advise_71 (lv_at hl 4 rfl) ?_
          refine zp_X8_38 C hw (zn13 hL (by decide)) dX8_advise_73 (fun H locs m15 em15 hw => ?_)
          have GA2 : gS m15 1 bc sc go hq := by rw [em15]; exact gS_sl GA
          refine lv_aload_n hx hb dX8_advise_76 rfl (lv_at hl 0 rfl) ?_
          refine zg_X8_16 C hw (zn12 hL) dX8_advise_77 ?_
          refine lv_iload_n hx hb dX8_advise_80 rfl (lv_at hl 1 rfl) ?_
          refine W.eq (congrArg (fun z : Int32 => F0 mi 81 ls [.int z, .ref (ad (13, 1, 0))]) (show h = nI h.toNatClampNeg from uh)) ?_
          refine zafter_i C hw (zrunS (rest := []) C hml hl.1 hw (c_X8_run l D cy ad m15 H.size hL (by decide) GA2 h.toNatClampNeg (by omega) (by omega)) zv_X8_96 rfl rfl rfl ⟨Nat.le_of_ble_eq_true rfl, Nat.le_of_ble_eq_true rfl⟩ rfl (Nat.le_of_ble_eq_true rfl) dX8_advise_81 ⟨Nat.zero_le _, Nat.zero_le _⟩) (fun r18 m17 H locs h16 hw => ?_)
          obtain ⟨er18, em17⟩ := h16
          refine lv_pop hx hb dX8_advise_84 rfl ?_
          refine lv_aload_n hx hb dX8_advise_85 rfl (lv_at hl 0 rfl) ?_
          refine zg_X8_16 C hw (zn12 hL) dX8_advise_86 ?_
          refine zafter_i C hw (zrunV (rest := []) C hml hl.1 hw (zn13 hL (by decide)) rfl rfl (c_X7_tinInBuddles l D cy ad m17 H.size hL (by decide)) zv_X8_161 rfl rfl rfl ⟨Nat.le_of_ble_eq_true rfl, Nat.le_of_ble_eq_true rfl⟩ rfl (Nat.le_of_ble_eq_true rfl) dX8_advise_89 ⟨Nat.zero_le _, Nat.zero_le _⟩) (fun r21 m20 H locs h19 hw => ?_)
          obtain ⟨er21, h19⟩ := h19
          rw [h19] at hw
          clear h19 m20
          refine lv_iload_n hx hb dX8_advise_92 rfl (lv_at hl 3 rfl) ?_
          refine lv_icmp_gt (tgt := 99) hx hb dX8_advise_93 (by decide) (fun c93_22 => ?_) (fun c93_22 => ?_)
          · skip
            rw [er21] at c93_22
            refine lv_aload_n hx hb dX8_advise_99 rfl (lv_at hl 0 rfl) ?_
            refine zg_X8_16 C hw (zn12 hL) dX8_advise_100 ?_
            refine zafter_i C hw (zrunV (rest := []) C hml hl.1 hw (zn13 hL (by decide)) rfl rfl (c_X7_tinInBuddles l D cy ad m17 H.size hL (by decide)) zv_X8_161 rfl rfl rfl ⟨Nat.le_of_ble_eq_true rfl, Nat.le_of_ble_eq_true rfl⟩ rfl (Nat.le_of_ble_eq_true rfl) dX8_advise_103 ⟨Nat.zero_le _, Nat.zero_le _⟩) (fun r25 m24 H locs h23 hw => ?_)
            obtain ⟨er25, h23⟩ := h23
            rw [h23] at hw
            clear h23 m24
            refine lv_istore_n (lv' := [(3, .int r25), (0, .ref (ad (12, 0, 0))), (1, .int h), (2, .int x2), (4, .int (nI k))]) hx hb dX8_advise_106 rfl hl (by decide) rfl (fun ls hl => ?_)
            refine lv_iload hx hb dX8_advise_107 (lv_at hl 4 rfl) ?_
            refine lv_istore_n (lv' := [(2, .int (nI k)), (3, .int r25), (0, .ref (ad (12, 0, 0))), (1, .int h), (4, .int (nI k))]) hx hb dX8_advise_109 rfl hl (by decide) rfl (fun ls hl => ?_)
            refine lv_iinc (v := (nI (k + 1))) (lv' := [(4, .int (nI (k + 1))), (2, .int (nI k)), (3, .int r25), (0, .ref (ad (12, 0, 0))), (1, .int h)]) hx hb dX8_advise_110 hl (k := 4) rfl (nI_1 k) (by decide) rfl (fun ls hl => ?_)
            refine lv_goto (tgt := 49) hx hb dX8_advise_113 (by decide) ?_
            exact ih49 _ (by omega) (k + 1) (nI k) r25 m17 _ _ _ rfl (by omega) (by rw [em17, em15, em13]; exact gS_adv G0) (q8_adv_a i49_3 em13 em15 em17 (by first | exact c93_22 | (rw [← er21]; exact c93_22)) er25) hw (lv_sub hl [3, 4, 1, 2, 0] rfl)
          · skip
            rw [er21] at c93_22
            refine lv_goto (tgt := 110) hx hb dX8_advise_96 (by decide) ?_
            refine lv_iinc (v := (nI (k + 1))) (lv' := [(4, .int (nI (k + 1))), (0, .ref (ad (12, 0, 0))), (1, .int h), (2, .int x2), (3, .int x3)]) hx hb dX8_advise_110 hl (k := 4) rfl (nI_1 k) (by decide) rfl (fun ls hl => ?_)
            refine lv_goto (tgt := 49) hx hb dX8_advise_113 (by decide) ?_
            exact ih49 _ (by omega) (k + 1) x2 x3 m17 _ _ _ rfl (by omega) (by rw [em17, em15, em13]; exact gS_adv G0) (q8_adv_b i49_3 em13 em15 em17 (by first | exact c93_22 | (rw [← er21]; exact c93_22))) hw (lv_sub hl [1, 2, 3, 4, 0] rfl)
      exact loop49 _ 0 0 x8 m1 _ _ _ rfl (by omega) GM1.1 (by rw [ex8]; rfl) hw (lv_sub hl [3, 4, 2, 1, 0] rfl)
    · skip
      have n26 := znle c33_6 (a := (hq + h.toNatClampNeg)) (b := 5000) (zadd rfl uh) rfl (by omega) (by omega)
      refine lv_aload_n hx hb dX8_advise_36 rfl (lv_at hl 0 rfl) ?_
      refine lv_iconst (v := 2) hx hb dX8_advise_37 (by decide) ?_
      refine zafter_i C hw (zrunV (rest := []) C hml hl.1 hw (zn12 hL) rfl rfl (c_X8_no l D cy ad m1 H.size hL 2) zv_X8_31 rfl rfl rfl ⟨Nat.le_of_ble_eq_true rfl, Nat.le_of_ble_eq_true rfl⟩ rfl (Nat.le_of_ble_eq_true rfl) dX8_advise_38 ⟨Nat.zero_le _, Nat.zero_le _⟩) (fun r29 m28 H locs h27 hw => ?_)
      obtain ⟨er29, em28⟩ := h27
      exact zret_i C hr hlocks hw dX8_advise_41 (by subst_vars; exact zpair ((if_neg c12_5).trans (if_neg c33_6)))
  · skip
    rw [er4] at c12_5
    refine lv_aload_n hx hb dX8_advise_15 rfl (lv_at hl 0 rfl) ?_
    refine lv_iconst (v := 1) hx hb dX8_advise_16 (by decide) ?_
    refine zafter_i C hw (zrunV (rest := []) C hml hl.1 hw (zn12 hL) rfl rfl (c_X8_no l D cy ad m1 H.size hL 1) zv_X8_31 rfl rfl rfl ⟨Nat.le_of_ble_eq_true rfl, Nat.le_of_ble_eq_true rfl⟩ rfl (Nat.le_of_ble_eq_true rfl) dX8_advise_17 ⟨Nat.zero_le _, Nat.zero_le _⟩) (fun r32 m31 H locs h30 hw => ?_)
    obtain ⟨er32, em31⟩ := h30
    exact zret_i C hr hlocks hw dX8_advise_20 (by subst_vars; exact zpair (if_pos c12_5))
