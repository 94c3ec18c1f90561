
set_option maxHeartbeats 4000000 in
set_option maxRecDepth 100000 in
theorem c_X6_advise (l : Launch) (hst : l.stackTraces = false) (D : va_G) (cy : Nat → ClassId) (ad : ZN → Nat) (m : ZM) (sz : Nat) {L : List ZN} (hL : zL L) {bc : Nat} {sc bu : Nat → Nat} {hq : Nat} (G : gW m 0 bc sc bu hq) {fq hn : Nat} (hfq : m (8, 0, 0) 1 = nI fq) (lfq : fq < 30) (hhn : m (8, 0, 0) 2 = nI hn) (lhn : hn ≤ 30) (T : gT m) (lq : hq ≤ 5000) (h : Int32) : vx_Met l yX6_advise (zws yX6_advise cX6_advise 6 (some .int)) ({ frames := 7, cells := 2, slots := 12, locals := 142 } : Room) (zPx D cy ad L m sz [.ref (ad (0, 0, 0)), .int h]) (zQi (fun r m1 => q6_advise m bc sc hq fq hn h = (0, r, m1)) D cy ad L sz) (zXc (fun E u => ∃ kx, kx ≠ 0 ∧ E = zEn kx ∧ q6_advise m bc sc hq fq hn h = (kx, 0, u)) D cy ad L sz) 2 12 (zA ad L sz) := by
  refine zXopen (Qc := fun sz => zQi (fun r m1 => q6_advise m bc sc hq fq hn h = (0, r, m1)) D cy ad L sz) (XC := fun sz => zXc (fun E u => ∃ kx, kx ≠ 0 ∧ E = zEn kx ∧ q6_advise m bc sc hq fq hn h = (kx, 0, u)) D cy ad L sz) RX6 (by decide +kernel) rfl (Nat.le_of_ble_eq_true rfl) ?_
  intro p e s mi below meth c ls C E9 hnt hr hlocks hml hl H locs hw
  obtain ⟨hx, hb, hts, hown, hK, hNw⟩ := id C
  have hl : lv_has ls 6 [(0, .ref (ad (0, 0, 0))), (1, .int h)] := hl
  obtain ⟨hbc, lbc, hbx, ⟨f, hf, lf⟩, hhr, lhr⟩ := id G
  refine lv_iload_n hx hb dX6_advise_0 rfl (lv_at hl 1 rfl) ?_
  refine lv_bipush (v := 48) hx hb dX6_advise_1 (by decide) ?_
  refine zxa_v C hnt hlocks hw (zrunSx (rest := []) C E9 hml hl.1 hw (c_X6_refuseHours l hst D cy ad m H.size h 48) zv_X6_130 rfl rfl rfl ⟨Nat.le_of_ble_eq_true rfl, Nat.le_of_ble_eq_true rfl⟩ rfl (Nat.le_of_ble_eq_true rfl) dX6_advise_3 ⟨Nat.le_of_ble_eq_true rfl, Nat.le_of_ble_eq_true rfl⟩) ⟨Nat.le_of_ble_eq_true rfl, Nat.le_of_ble_eq_true rfl⟩ (fun E u h => by obtain ⟨k9, hk9, he9, hc9, rfl⟩ := h; subst hc9; exact ⟨_, hk9, he9, if_neg hk9⟩) (fun m2 H locs h1 hw => ?_)
  obtain ⟨kh1, h1⟩ := h1
  rw [h1] at hw
  clear h1 m2
  obtain ⟨uh, lh1, lh2⟩ := q6_rh_ok (n := 48) (by decide) kh1
  refine lv_aload_n hx hb dX6_advise_6 rfl (lv_at hl 0 rfl) ?_
  refine lv_iload_n hx hb dX6_advise_7 rfl (lv_at hl 1 rfl) ?_
  refine zxa_v C hnt hlocks hw (zrunVx (rest := []) C E9 hml hl.1 hw (zn0 hL) rfl rfl (c_X6_refuseLateHour l hst D cy ad m H.size hL h) zv_X6_133 rfl rfl rfl ⟨Nat.le_of_ble_eq_true rfl, Nat.le_of_ble_eq_true rfl⟩ rfl (Nat.le_of_ble_eq_true rfl) dX6_advise_8 ⟨Nat.le_of_ble_eq_true rfl, Nat.le_of_ble_eq_true rfl⟩) ⟨Nat.le_of_ble_eq_true rfl, Nat.le_of_ble_eq_true rfl⟩ (fun E u h => by obtain ⟨k9, hk9, he9, hc9, rfl⟩ := h; subst hc9; exact ⟨_, hk9, he9, (if_pos kh1).trans (if_neg hk9)⟩) (fun m5 H locs h4 hw => ?_)
  obtain ⟨kh4, h4⟩ := h4
  rw [h4] at hw
  clear h4 m5
  refine lv_iconst (v := 0) hx hb dX6_advise_11 (by decide) ?_
  refine lv_istore_n (lv' := [(2, .int 0), (0, .ref (ad (0, 0, 0))), (1, .int h)]) hx hb dX6_advise_12 rfl hl (by decide) rfl (fun ls hl => ?_)
  refine lv_iconst (v := (-1)) hx hb dX6_advise_13 (by decide) ?_
  refine lv_topi (fun x7 ex7 => ?_)
  refine lv_istore_n (lv' := [(3, .int x7), (2, .int 0), (0, .ref (ad (0, 0, 0))), (1, .int h)]) hx hb dX6_advise_14 rfl hl (by decide) rfl (fun ls hl => ?_)
  refine lv_iconst (v := 0) hx hb dX6_advise_15 (by decide) ?_
  refine lv_istore (lv' := [(4, .int 0), (3, .int x7), (2, .int 0), (0, .ref (ad (0, 0, 0))), (1, .int h)]) hx hb dX6_advise_16 hl (by decide) rfl (fun ls hl => ?_)
  have loop18 : ∀ (z : Nat) (k : Nat) (x2 x3 : Int32) (m0 : ZM) (H : Heap) (locs : List Loc) (ls : Array Slot), 21 - k = z → (k ≤ 21) → (zfr 1 m m0) → (gT m0) → ((m0, x2, x3) = q6_advS m bc sc hq fq hn h.toNatClampNeg k) → zH D cy ad L s.heap H locs m0 → lv_has ls 6 [(0, .ref (ad (0, 0, 0))), (1, .int h), (2, .int x2), (3, .int x3), (4, .int (nI k))] → W p l e ({ frames := 7, cells := 2, slots := 12, locals := 142 } : Room) s mi [.ref (ad (0, 0, 0)), .int h].toArray below meth c H locs ((0 + 1) + 1) ((0 + 6) + 6) (vx_MQ below (zQi (fun r m1 => q6_advise m bc sc hq fq hn h = (0, r, m1)) D cy ad L s.heap.size) (zXc (fun E u => ∃ kx, kx ≠ 0 ∧ E = zEn kx ∧ q6_advise m bc sc hq fq hn h = (kx, 0, u)) D cy ad L s.heap.size) [.ref (ad (0, 0, 0)), .int h].toArray s 2 12 (zA ad L s.heap.size)) (F0 mi 18 ls []) := by
    intro z
    induction z using Nat.strongRecOn with
    | _ z ih18 =>
    intro k x2 x3 m0 H locs ls hz18 i18_1 i18_2 i18_3 i18_4 hw hl
    have G0 : gW m0 0 bc sc bu hq := gW_fr i18_2 G
    have F1 : m0 (8, 0, 0) 1 = nI fq := by rw [i18_2 _ zt1_80]; exact hfq
    have F2 : m0 (8, 0, 0) 2 = nI hn := by rw [i18_2 _ zt1_80]; exact hhn
    refine lv_iload hx hb dX6_advise_18 (lv_at hl 4 rfl) ?_
    refine lv_bipush (v := 20) hx hb dX6_advise_20 (by decide) ?_
    refine lv_icmp_gt (tgt := 81) hx hb dX6_advise_22 (by decide) (fun c22_8 => ?_) (fun c22_8 => ?_)
    · skip
      have n9 := zlt c22_8 (a := 20) (b := k) rfl rfl (by omega) (by omega)
      refine lv_iload_n hx hb dX6_advise_81 rfl (lv_at hl 2 rfl) ?_
      refine W.widen (k := 2) (n := 12) (by omega) (by omega) ?_
      refine vx_ret ?_
      exact zret_i C hr hlocks hw dX6_advise_82 (by obtain rfl : k = 21 := (by omega); exact (if_pos kh1).trans ((if_pos kh4).trans (q6_adv_e i18_4)))
    · skip
      have n10 := znlt c22_8 (a := 20) (b := k) rfl rfl (by omega) (by omega)
      refine lv_aload_n hx hb dX6_advise_25 rfl (lv_at hl 0 rfl) ?_
      refine zg_X6_16 C hw (zn0 hL) dX6_advise_26 ?_
      refine lv_aload_n hx hb dX6_advise_29 rfl (lv_at hl 0 rfl) ?_
      refine zg_X6_10 C hw (zn0 hL) dX6_advise_30 ?_
      refine zafter_v C hw (zrunV (rest := []) C hml hl.1 hw (zn1 hL (by decide)) rfl rfl (c_X5_copyWorks l D cy ad m0 H.size hL (by decide) (by decide) (by decide) G0 F1 lfq F2 lhn) zv_X6_184 rfl rfl rfl ⟨Nat.le_of_ble_eq_true rfl, Nat.le_of_ble_eq_true rfl⟩ rfl (Nat.le_of_ble_eq_true rfl) dX6_advise_33 ⟨Nat.le_of_ble_eq_true rfl, Nat.le_of_ble_eq_true rfl⟩) (fun m12 H locs h11 hw => ?_)
      have em12 := h11
      refine lv_aload_n hx hb dX6_advise_36 rfl (lv_at hl 0 rfl) ?_
      refine zg_X6_16 C hw (zn0 hL) dX6_advise_37 ?_
      refine lv_iload hx hb dX6_advise_40 (lv_at hl 4 rfl) ?_
      refine zp_X6_37 C hw (zn1 hL (by decide)) dX6_advise_42 (fun H locs m14 em14 hw => ?_)
      have GA : gW m14 1 bc (zsc m14) (zbu m14) hq := by rw [em14, em12]; exact gW_sl6 (gW_copy G0 i18_3 F1 lfq)
      refine lv_aload_n hx hb dX6_advise_45 rfl (lv_at hl 0 rfl) ?_
      refine zg_X6_16 C hw (zn0 hL) dX6_advise_46 ?_
      refine lv_iload_n hx hb dX6_advise_49 rfl (lv_at hl 1 rfl) ?_
      refine W.eq (congrArg (fun z : Int32 => F0 mi 50 ls [.int z, .ref (ad (1, 1, 0))]) (show h = nI h.toNatClampNeg from uh)) ?_
      refine zafter_i C hw (zrunV (rest := []) C hml hl.1 hw (zn1 hL (by decide)) rfl rfl (c_X5_passHours l D cy ad m14 H.size hL (by decide) GA h.toNatClampNeg (by omega) (by omega)) zv_X6_137 rfl rfl rfl ⟨Nat.le_of_ble_eq_true rfl, Nat.le_of_ble_eq_true rfl⟩ rfl (Nat.le_of_ble_eq_true rfl) dX6_advise_50 ⟨Nat.le_of_ble_eq_true rfl, Nat.le_of_ble_eq_true rfl⟩) (fun r17 m16 H locs h15 hw => ?_)
      obtain ⟨er17, em16⟩ := h15
      refine lv_pop hx hb dX6_advise_53 rfl ?_
      refine lv_aload_n hx hb dX6_advise_54 rfl (lv_at hl 0 rfl) ?_
      refine zg_X6_16 C hw (zn0 hL) dX6_advise_55 ?_
      refine zafter_i C hw (zrunV (rest := []) C hml hl.1 hw (zn1 hL (by decide)) rfl rfl (c_X5_tinOfBuddles l D cy ad m16 H.size hL (by decide)) zv_X6_191 rfl rfl rfl ⟨Nat.le_of_ble_eq_true rfl, Nat.le_of_ble_eq_true rfl⟩ rfl (Nat.le_of_ble_eq_true rfl) dX6_advise_58 ⟨Nat.le_of_ble_eq_true rfl, Nat.le_of_ble_eq_true rfl⟩) (fun r20 m19 H locs h18 hw => ?_)
      obtain ⟨er20, h18⟩ := h18
      rw [h18] at hw
      clear h18 m19
      refine lv_istore (lv' := [(5, .int r20), (0, .ref (ad (0, 0, 0))), (1, .int h), (2, .int x2), (3, .int x3), (4, .int (nI k))]) hx hb dX6_advise_61 hl (by decide) rfl (fun ls hl => ?_)
      refine lv_iload hx hb dX6_advise_63 (lv_at hl 0 rfl) ?_
      refine lv_iload_n hx hb dX6_advise_65 rfl (lv_at hl 4 rfl) ?_
      refine lv_icmp_le (tgt := 75) hx hb dX6_advise_66 (by decide) (fun c66_21 => ?_) (fun c66_21 => ?_)
      · skip
        rw [er20] at c66_21
        refine lv_iinc (v := (nI (k + 1))) (lv' := [(4, .int (nI (k + 1))), (5, .int r20), (0, .ref (ad (0, 0, 0))), (1, .int h), (2, .int x2), (3, .int x3)]) hx hb dX6_advise_75 hl (k := 5) rfl (nI_1 k) (by decide) rfl (fun ls hl => ?_)
        refine lv_goto (tgt := 18) hx hb dX6_advise_78 (by decide) ?_
        exact ih18 _ (by omega) (k + 1) x2 x3 m16 _ _ _ rfl (by omega) (q6_adv_f i18_2 em12 em14 em16) (gT_of (by rw [em16]; exact gW_pass GA (by omega))) (q6_adv_b i18_4 em12 em14 em16 (by first | exact c66_21 | (rw [← er20]; exact c66_21))) hw (lv_sub hl [2, 3, 4, 5, 0] rfl)
      · skip
        rw [er20] at c66_21
        refine lv_iload hx hb dX6_advise_69 (lv_at hl 5 rfl) ?_
        refine lv_istore_n (lv' := [(2, .int (nI k)), (5, .int r20), (0, .ref (ad (0, 0, 0))), (1, .int h), (3, .int x3), (4, .int (nI k))]) hx hb dX6_advise_71 rfl hl (by decide) rfl (fun ls hl => ?_)
        refine lv_iload hx hb dX6_advise_72 (lv_at hl 1 rfl) ?_
        refine lv_istore_n (lv' := [(3, .int r20), (2, .int (nI k)), (5, .int r20), (0, .ref (ad (0, 0, 0))), (1, .int h), (4, .int (nI k))]) hx hb dX6_advise_74 rfl hl (by decide) rfl (fun ls hl => ?_)
        refine lv_iinc (v := (nI (k + 1))) (lv' := [(4, .int (nI (k + 1))), (3, .int r20), (2, .int (nI k)), (5, .int r20), (0, .ref (ad (0, 0, 0))), (1, .int h)]) hx hb dX6_advise_75 hl (k := 5) rfl (nI_1 k) (by decide) rfl (fun ls hl => ?_)
        refine lv_goto (tgt := 18) hx hb dX6_advise_78 (by decide) ?_
        exact ih18 _ (by omega) (k + 1) (nI k) r20 m16 _ _ _ rfl (by omega) (q6_adv_f i18_2 em12 em14 em16) (gT_of (by rw [em16]; exact gW_pass GA (by omega))) (q6_adv_a i18_4 em12 em14 em16 (by first | exact c66_21 | (rw [← er20]; exact c66_21)) er20) hw (lv_sub hl [4, 5, 2, 1, 0] rfl)
  exact loop18 _ 0 0 x7 m _ _ _ rfl (by omega) zf_rf T (by rw [ex7]; rfl) hw (lv_sub hl [3, 4, 2, 1, 0] rfl)
