
set_option maxHeartbeats 4000000 in
set_option maxRecDepth 100000 in
theorem c_X6_foresee (l : Launch) (hst : l.stackTraces = false) (D : va_G) (cy : Nat → ClassId) (ad : ZN → Nat) (m : ZM) (sz : Nat) {L : List ZN} (hL : zL L) {bc : Nat} {sc bu : Nat → Nat} {hq : Nat} (G : gW m 0 bc sc bu hq) {fq hn : Nat} (hfq : m (8, 0, 0) 1 = nI fq) (lfq : fq < 30) (hhn : m (8, 0, 0) 2 = nI hn) (lhn : hn ≤ 30) (T : gT m) (lq : hq ≤ 5000) (h k : Int32) : vx_Met l yX6_foresee (zws yX6_foresee cX6_foresee 4 (some .int)) ({ frames := 7, cells := 3, slots := 18, locals := 142 } : Room) (zPx D cy ad L m sz [.ref (ad (0, 0, 0)), .int h, .int k]) (zQi (fun r m1 => q6_foresee m bc sc hq fq hn h k = (0, r, m1)) D cy ad L sz) (zXc (fun E u => ∃ kx, kx ≠ 0 ∧ E = zEn kx ∧ q6_foresee m bc sc hq fq hn h k = (kx, 0, u)) D cy ad L sz) 3 18 (zA ad L sz) := by
  refine zXopen (Qc := fun sz => zQi (fun r m1 => q6_foresee m bc sc hq fq hn h k = (0, r, m1)) D cy ad L sz) (XC := fun sz => zXc (fun E u => ∃ kx, kx ≠ 0 ∧ E = zEn kx ∧ q6_foresee m bc sc hq fq hn h k = (kx, 0, u)) D cy ad L sz) RX6 (by decide +kernel) rfl (Nat.le_of_ble_eq_true rfl) ?_
  intro p e s mi below meth c ls C E9 hnt hr hlocks hml hl H locs hw
  obtain ⟨hx, hb, hts, hown, hK, hNw⟩ := id C
  have hl : lv_has ls 4 [(0, .ref (ad (0, 0, 0))), (1, .int h), (2, .int k)] := hl
  obtain ⟨hbc, lbc, hbx, ⟨f, hf, lf⟩, hhr, lhr⟩ := id G
  refine lv_iload_n hx hb dX6_foresee_0 rfl (lv_at hl 1 rfl) ?_
  refine lv_bipush (v := 100) hx hb dX6_foresee_1 (by decide) ?_
  refine zxa_v C hnt hlocks hw (zrunSx (rest := []) C E9 hml hl.1 hw (c_X6_refuseHours l hst D cy ad m H.size h 100) zv_X6_130 rfl rfl rfl ⟨Nat.le_of_ble_eq_true rfl, Nat.le_of_ble_eq_true rfl⟩ rfl (Nat.le_of_ble_eq_true rfl) dX6_foresee_3 ⟨Nat.le_of_ble_eq_true rfl, Nat.le_of_ble_eq_true rfl⟩) ⟨Nat.le_of_ble_eq_true rfl, Nat.le_of_ble_eq_true rfl⟩ (fun E u h => by obtain ⟨k9, hk9, he9, hc9, rfl⟩ := h; subst hc9; exact ⟨_, hk9, he9, if_neg hk9⟩) (fun m2 H locs h1 hw => ?_)
  obtain ⟨kh1, h1⟩ := h1
  rw [h1] at hw
  clear h1 m2
  obtain ⟨uh, lh1, lh2⟩ := q6_rh_ok (n := 100) (by decide) kh1
  refine lv_iload_n hx hb dX6_foresee_6 rfl (lv_at hl 2 rfl) ?_
  refine lv_if_lt (tgt := 15) hx hb dX6_foresee_7 (by decide) (fun c7_4 => ?_) (fun c7_4 => ?_)
  · skip
    exact zthrow hst C E9 hnt (hl.1.trans hml.symm) hlocks hw (k := 1) (by decide) rfl rfl zTx_182 dX6_foresee_15 dX6_foresee_18 dX6_foresee_19 dX6_foresee_21 dX6_foresee_24 ⟨Nat.le_of_ble_eq_true rfl, Nat.le_of_ble_eq_true rfl, Nat.le_of_ble_eq_true rfl, Nat.le_of_ble_eq_true rfl⟩ ⟨Nat.le_of_ble_eq_true rfl, Nat.le_of_ble_eq_true rfl⟩ ⟨1, by decide, rfl, (if_pos kh1).trans (if_pos c7_4)⟩
  · skip
    refine lv_iload_n hx hb dX6_foresee_10 rfl (lv_at hl 2 rfl) ?_
    refine lv_iconst (v := 5) hx hb dX6_foresee_11 (by decide) ?_
    refine lv_icmp_lt (tgt := 25) hx hb dX6_foresee_12 (by decide) (fun c12_5 => ?_) (fun c12_5 => ?_)
    · skip
      refine lv_aload_n hx hb dX6_foresee_25 rfl (lv_at hl 0 rfl) ?_
      refine lv_iload_n hx hb dX6_foresee_26 rfl (lv_at hl 1 rfl) ?_
      refine zxa_v C hnt hlocks hw (zrunVx (rest := []) C E9 hml hl.1 hw (zn0 hL) rfl rfl (c_X6_refuseLateHour l hst D cy ad m H.size hL h) zv_X6_133 rfl rfl rfl ⟨Nat.le_of_ble_eq_true rfl, Nat.le_of_ble_eq_true rfl⟩ rfl (Nat.le_of_ble_eq_true rfl) dX6_foresee_27 ⟨Nat.le_of_ble_eq_true rfl, Nat.le_of_ble_eq_true rfl⟩) ⟨Nat.le_of_ble_eq_true rfl, Nat.le_of_ble_eq_true rfl⟩ (fun E u h => by obtain ⟨k9, hk9, he9, hc9, rfl⟩ := h; subst hc9; exact ⟨_, hk9, he9, (if_pos kh1).trans ((if_neg c7_4).trans ((if_pos c12_5).trans (if_neg hk9)))⟩) (fun m7 H locs h6 hw => ?_)
      obtain ⟨kh6, h6⟩ := h6
      rw [h6] at hw
      clear h6 m7
      refine lv_aload_n hx hb dX6_foresee_30 rfl (lv_at hl 0 rfl) ?_
      refine zg_X6_16 C hw (zn0 hL) dX6_foresee_31 ?_
      refine lv_aload_n hx hb dX6_foresee_34 rfl (lv_at hl 0 rfl) ?_
      refine zg_X6_10 C hw (zn0 hL) dX6_foresee_35 ?_
      refine zafter_v C hw (zrunV (rest := []) C hml hl.1 hw (zn1 hL (by decide)) rfl rfl (c_X5_copyWorks l D cy ad m H.size hL (by decide) (by decide) (by decide) G hfq lfq hhn lhn) zv_X6_184 rfl rfl rfl ⟨Nat.le_of_ble_eq_true rfl, Nat.le_of_ble_eq_true rfl⟩ rfl (Nat.le_of_ble_eq_true rfl) dX6_foresee_38 ⟨Nat.le_of_ble_eq_true rfl, Nat.le_of_ble_eq_true rfl⟩) (fun m10 H locs h9 hw => ?_)
      have em10 := h9
      have GA : gW m10 1 bc (zsc m10) (zbu m10) hq := by rw [em10]; exact gW_copy G T hfq lfq
      have HA : gH m10 1 := by rw [em10]; exact gH_copy hhn lhn
      refine lv_aload_n hx hb dX6_foresee_41 rfl (lv_at hl 0 rfl) ?_
      refine zg_X6_16 C hw (zn0 hL) dX6_foresee_42 ?_
      refine lv_iload_n hx hb dX6_foresee_45 rfl (lv_at hl 1 rfl) ?_
      refine W.eq (congrArg (fun z : Int32 => F0 mi 46 ls [.int z, .ref (ad (1, 1, 0))]) (show h = nI h.toNatClampNeg from uh)) ?_
      refine zafter_i C hw (zrunV (rest := []) C hml hl.1 hw (zn1 hL (by decide)) rfl rfl (c_X5_passHours l D cy ad m10 H.size hL (by decide) GA h.toNatClampNeg (by omega) (by omega)) zv_X6_137 rfl rfl rfl ⟨Nat.le_of_ble_eq_true rfl, Nat.le_of_ble_eq_true rfl⟩ rfl (Nat.le_of_ble_eq_true rfl) dX6_foresee_46 ⟨Nat.le_of_ble_eq_true rfl, Nat.le_of_ble_eq_true rfl⟩) (fun r14 m13 H locs h12 hw => ?_)
      obtain ⟨er14, em13⟩ := h12
      have GB : gW m13 1 bc (zsc m10) (zbu m10) (hq + h.toNatClampNeg) := by rw [em13]; exact gW_pass GA (by omega)
      have HB : gH m13 1 := by rw [em13]; exact gH_pass HA
      obtain ⟨-, -, -, ⟨fB, hfB, lfB⟩, -, -⟩ := id GB
      obtain ⟨nB, hnB, lnB⟩ := id HB
      refine lv_istore_n (lv' := [(3, .int r14), (0, .ref (ad (0, 0, 0))), (1, .int h), (2, .int k)]) hx hb dX6_foresee_49 rfl hl (by decide) rfl (fun ls hl => ?_)
      refine lv_iload_n hx hb dX6_foresee_50 rfl (lv_at hl 3 rfl) ?_
      by_cases q15 : k = 0
      · skip
        refine lv_tableIn (off := 29) (tgt := 80) hx hb dX6_foresee_51 (by rw [q15]; decide) (by rw [q15]; decide) (by rw [q15]; rfl) (by decide) ?_
        refine lv_iload_n hx hb dX6_foresee_80 rfl (lv_at hl 0 rfl) ?_
        refine W.widen (k := 3) (n := 18) (by omega) (by omega) ?_
        refine vx_ret ?_
        exact zret_i C hr hlocks hw dX6_foresee_81 (by replace q15 := eq_true q15; subst er14 em13 em10; exact (if_pos kh1).trans ((if_neg c7_4).trans ((if_pos c12_5).trans ((if_pos kh6).trans (if_pos (of_eq_true q15))))))
      by_cases q16 : k = 1
      · skip
        refine lv_tableIn (off := 31) (tgt := 82) hx hb dX6_foresee_51 (by rw [q16]; decide) (by rw [q16]; decide) (by rw [q16]; rfl) (by decide) ?_
        refine lv_aload_n hx hb dX6_foresee_82 rfl (lv_at hl 1 rfl) ?_
        refine zg_X6_16 C hw (zn0 hL) dX6_foresee_83 ?_
        refine zg_X6_188 C hw (zn1 hL (by decide)) dX6_foresee_86 ?_
        refine W.widen (k := 3) (n := 18) (by omega) (by omega) ?_
        refine vx_ret ?_
        exact zret_i C hr hlocks hw dX6_foresee_89 (by replace q16 := eq_true q16; subst em13 em10; exact (if_pos kh1).trans ((if_neg c7_4).trans ((if_pos c12_5).trans ((if_pos kh6).trans ((if_neg q15).trans (if_pos (of_eq_true q16)))))))
      by_cases q17 : k = 2
      · skip
        refine lv_tableIn (off := 39) (tgt := 90) hx hb dX6_foresee_51 (by rw [q17]; decide) (by rw [q17]; decide) (by rw [q17]; rfl) (by decide) ?_
        refine lv_aload_n hx hb dX6_foresee_90 rfl (lv_at hl 1 rfl) ?_
        refine zg_X6_16 C hw (zn0 hL) dX6_foresee_91 ?_
        refine zafter_i C hw (zrunV (rest := []) C hml hl.1 hw (zn1 hL (by decide)) rfl rfl (c_X5_tinOfBuddles l D cy ad m13 H.size hL (by decide)) zv_X6_191 rfl rfl rfl ⟨Nat.le_of_ble_eq_true rfl, Nat.le_of_ble_eq_true rfl⟩ rfl (Nat.le_of_ble_eq_true rfl) dX6_foresee_94 ⟨Nat.le_of_ble_eq_true rfl, Nat.le_of_ble_eq_true rfl⟩) (fun r20 m19 H locs h18 hw => ?_)
        obtain ⟨er20, h18⟩ := h18
        rw [h18] at hw
        clear h18 m19
        refine W.widen (k := 3) (n := 18) (by omega) (by omega) ?_
        refine vx_ret ?_
        exact zret_i C hr hlocks hw dX6_foresee_97 (by replace q17 := eq_true q17; subst er20 em13 em10; exact (if_pos kh1).trans ((if_neg c7_4).trans ((if_pos c12_5).trans ((if_pos kh6).trans ((if_neg q15).trans ((if_neg q16).trans (if_pos (of_eq_true q17))))))))
      by_cases q21 : k = 3
      · skip
        refine lv_tableIn (off := 47) (tgt := 98) hx hb dX6_foresee_51 (by rw [q21]; decide) (by rw [q21]; decide) (by rw [q21]; rfl) (by decide) ?_
        refine lv_aload_n hx hb dX6_foresee_98 rfl (lv_at hl 1 rfl) ?_
        refine zg_X6_16 C hw (zn0 hL) dX6_foresee_99 ?_
        refine zg_X6_194 C hw (zn1 hL (by decide)) dX6_foresee_102 ?_
        refine lv_aload_n hx hb dX6_foresee_105 rfl (lv_at hl 1 rfl) ?_
        refine zg_X6_10 C hw (zn0 hL) dX6_foresee_106 ?_
        refine zg_X6_194 C hw (zn1 hL (by decide)) dX6_foresee_109 ?_
        refine lv_isub hx hb dX6_foresee_112 ?_
        refine W.widen (k := 3) (n := 18) (by omega) (by omega) ?_
        refine vx_ret ?_
        exact zret_i C hr hlocks hw dX6_foresee_113 (by replace q21 := eq_true q21; subst em13 em10; exact (if_pos kh1).trans ((if_neg c7_4).trans ((if_pos c12_5).trans ((if_pos kh6).trans ((if_neg q15).trans ((if_neg q16).trans ((if_neg q17).trans (if_pos (of_eq_true q21)))))))))
      refine lv_tableOut (tgt := 114) hx hb dX6_foresee_51 (zsw4 q15 q16 q17 q21) (by decide) ?_
      refine lv_aload_n hx hb dX6_foresee_114 rfl (lv_at hl 1 rfl) ?_
      refine zg_X6_16 C hw (zn0 hL) dX6_foresee_115 ?_
      refine zg_X6_104 C hw (zn1 hL (by decide)) dX6_foresee_118 ?_
      refine zafter_i C hw (zrunV (rest := []) C hml hl.1 hw (zn8 hL (by decide)) rfl rfl (c_X1_oreOfLots l D cy ad m13 H.size hL (by decide) hfB lfB hnB lnB) zv_X6_197 rfl rfl rfl ⟨Nat.le_of_ble_eq_true rfl, Nat.le_of_ble_eq_true rfl⟩ rfl (Nat.le_of_ble_eq_true rfl) dX6_foresee_121 ⟨Nat.le_of_ble_eq_true rfl, Nat.le_of_ble_eq_true rfl⟩) (fun r24 m23 H locs h22 hw => ?_)
      obtain ⟨er24, h22⟩ := h22
      rw [h22] at hw
      clear h22 m23
      refine W.widen (k := 3) (n := 18) (by omega) (by omega) ?_
      refine vx_ret ?_
      exact zret_i C hr hlocks hw dX6_foresee_124 (by have hB1 : (m13 (8, 1, 0) 1).toNatClampNeg = fB := (by rw [hfB]; exact nI_clamp (by omega)); have hB2 : (m13 (8, 1, 0) 2).toNatClampNeg = nB := (by rw [hnB]; exact nI_clamp (by omega)); subst hB1 hB2 er24 em13 em10; exact (if_pos kh1).trans ((if_neg c7_4).trans ((if_pos c12_5).trans ((if_pos kh6).trans ((if_neg q15).trans ((if_neg q16).trans ((if_neg q17).trans (if_neg q21))))))))
    · skip
      exact zthrow hst C E9 hnt (hl.1.trans hml.symm) hlocks hw (k := 1) (by decide) rfl rfl zTx_182 dX6_foresee_15 dX6_foresee_18 dX6_foresee_19 dX6_foresee_21 dX6_foresee_24 ⟨Nat.le_of_ble_eq_true rfl, Nat.le_of_ble_eq_true rfl, Nat.le_of_ble_eq_true rfl, Nat.le_of_ble_eq_true rfl⟩ ⟨Nat.le_of_ble_eq_true rfl, Nat.le_of_ble_eq_true rfl⟩ ⟨1, by decide, rfl, (if_pos kh1).trans ((if_neg c7_4).trans (if_neg c12_5))⟩
