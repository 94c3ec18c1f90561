
set_option maxHeartbeats 4000000 in
set_option maxRecDepth 100000 in
theorem c_X8_wash (l : Launch) (D : va_G) (cy : Nat → ClassId) (ad : ZN → Nat) (m : ZM) (sz : Nat) {L : List ZN} (hL : zL L) {bc : Nat} {sc go : Nat → Nat} {hq ln : Nat} (G : gM m bc sc go hq ln) (b x : Int32) : Met l yX8_wash (zws yX8_wash cX8_wash 7 (some .int)) ({ frames := 1, cells := 0, slots := 0, locals := 23 } : Room) (zPc D cy ad L m sz [.ref (ad (12, 0, 0)), .int b, .int x]) (zQi (fun r m1 => r = (q8_wash m ln b x).1 ∧ m1 = (q8_wash m ln b x).2) D cy ad L sz) 0 0 (zA ad L sz) := by
  refine zopen (Qc := fun sz => zQi (fun r m1 => r = (q8_wash m ln b x).1 ∧ m1 = (q8_wash m ln b x).2) D cy ad L sz) RX8 (plainFor_of_name (by decide)) rfl (Nat.le_of_ble_eq_true rfl) ?_
  intro p e s mi below meth c ls C hr hlocks hml hl H locs hw
  obtain ⟨hx, hb, hts, hown, hK, hNw⟩ := id C
  have hl : lv_has ls 7 [(0, .ref (ad (12, 0, 0))), (1, .int b), (2, .int x)] := hl
  refine lv_aload_n hx hb dX8_wash_0 rfl (lv_at hl 0 rfl) ?_
  refine lv_iconst (v := 0) hx hb dX8_wash_1 (by decide) ?_
  refine zp_X8_23 C hw (zn12 hL) dX8_wash_2 (fun H locs m1 em1 hw => ?_)
  have GM1 : gM m1 bc sc go hq ln := by rw [em1]; exact gM_t G
  obtain ⟨⟨hbc1, lbc1, hbx1, hhd1, -, hhq1, lhq1, hld1⟩, hln1, lln1⟩ := id GM1
  refine lv_iload_n hx hb dX8_wash_5 rfl (lv_at hl 1 rfl) ?_
  refine lv_iconst (v := 0) hx hb dX8_wash_6 (by decide) ?_
  refine lv_iconst (v := 2) hx hb dX8_wash_7 (by decide) ?_
  refine zafter_i C hw (zrunS (rest := []) C hml hl.1 hw (c_X8_isIn l D cy ad m1 H.size b 0 2) zv_X8_27 rfl rfl rfl ⟨Nat.le_of_ble_eq_true rfl, Nat.le_of_ble_eq_true rfl⟩ rfl (Nat.le_of_ble_eq_true rfl) dX8_wash_8 ⟨Nat.zero_le _, Nat.zero_le _⟩) (fun r4 m3 H locs h2 hw => ?_)
  obtain ⟨er4, h2⟩ := h2
  rw [h2] at hw
  clear h2 m3
  refine lv_if_ne (tgt := 20) hx hb dX8_wash_11 (by decide) (fun c11_5 => ?_) (fun c11_5 => ?_)
  · skip
    rw [er4] at c11_5
    obtain ⟨ub, ubl, ubu⟩ := q_isIn_ok (x := b) (a := 0) (b := 2) (by decide) (by decide) (fun q => c11_5 q)
    refine lv_iload_n hx hb dX8_wash_20 rfl (lv_at hl 2 rfl) ?_
    refine lv_bipush (v := 10) hx hb dX8_wash_21 (by decide) ?_
    refine lv_bipush (v := 90) hx hb dX8_wash_23 (by decide) ?_
    refine zafter_i C hw (zrunS (rest := []) C hml hl.1 hw (c_X8_isIn l D cy ad m1 H.size x 10 90) zv_X8_27 rfl rfl rfl ⟨Nat.le_of_ble_eq_true rfl, Nat.le_of_ble_eq_true rfl⟩ rfl (Nat.le_of_ble_eq_true rfl) dX8_wash_25 ⟨Nat.zero_le _, Nat.zero_le _⟩) (fun r8 m7 H locs h6 hw => ?_)
    obtain ⟨er8, h6⟩ := h6
    rw [h6] at hw
    clear h6 m7
    refine lv_if_ne (tgt := 37) hx hb dX8_wash_28 (by decide) (fun c28_9 => ?_) (fun c28_9 => ?_)
    · skip
      rw [er8] at c28_9
      refine lv_aload_n hx hb dX8_wash_37 rfl (lv_at hl 0 rfl) ?_
      refine zg_X8_10 C hw (zn12 hL) dX8_wash_38 ?_
      refine lv_iload_n hx hb dX8_wash_41 rfl (lv_at hl 1 rfl) ?_
      refine W.eq (congrArg (fun z : Int32 => F0 mi 42 ls [.int z, .ref (ad (13, 0, 0))]) (show b = nI b.toNatClampNeg from ub)) ?_
      refine zafter_i C hw (zrunV (rest := []) C hml hl.1 hw (zn13 hL (by decide)) rfl rfl (c_X7_inBuddle l D cy ad m1 H.size hL (by decide) b.toNatClampNeg (by omega)) zv_X8_139 rfl rfl rfl ⟨Nat.le_of_ble_eq_true rfl, Nat.le_of_ble_eq_true rfl⟩ rfl (Nat.le_of_ble_eq_true rfl) dX8_wash_42 ⟨Nat.zero_le _, Nat.zero_le _⟩) (fun r12 m11 H locs h10 hw => ?_)
      obtain ⟨er12, h10⟩ := h10
      rw [h10] at hw
      clear h10 m11
      refine lv_if_eq (tgt := 60) hx hb dX8_wash_45 (by decide) (fun c45_13 => ?_) (fun c45_13 => ?_)
      · skip
        rw [er12] at c45_13
        refine lv_aload_n hx hb dX8_wash_60 rfl (lv_at hl 0 rfl) ?_
        refine lv_iconst (v := 3) hx hb dX8_wash_61 (by decide) ?_
        refine zafter_i C hw (zrunV (rest := []) C hml hl.1 hw (zn12 hL) rfl rfl (c_X8_no l D cy ad m1 H.size hL 3) zv_X8_31 rfl rfl rfl ⟨Nat.le_of_ble_eq_true rfl, Nat.le_of_ble_eq_true rfl⟩ rfl (Nat.le_of_ble_eq_true rfl) dX8_wash_62 ⟨Nat.zero_le _, Nat.zero_le _⟩) (fun r16 m15 H locs h14 hw => ?_)
        obtain ⟨er16, em15⟩ := h14
        exact zret_i C hr hlocks hw dX8_wash_65 (by subst_vars; exact zpair ((if_neg c11_5).trans ((if_neg c28_9).trans (if_pos c45_13))))
      · skip
        rw [er12] at c45_13
        refine lv_aload_n hx hb dX8_wash_48 rfl (lv_at hl 0 rfl) ?_
        refine zg_X8_10 C hw (zn12 hL) dX8_wash_49 ?_
        refine zg_X8_79 C hw (zn13 hL (by decide)) dX8_wash_52 ?_
        refine ztop hln1 ?_
        refine lv_bipush (v := 30) hx hb dX8_wash_55 (by decide) ?_
        refine lv_icmp_ne (tgt := 66) hx hb dX8_wash_57 (by decide) (fun c57_17 => ?_) (fun c57_17 => ?_)
        · skip
          have n18 := zne c57_17 (a := ln) (b := 30) rfl rfl (by omega) (by omega)
          refine lv_aload_n hx hb dX8_wash_66 rfl (lv_at hl 0 rfl) ?_
          refine lv_iload_n hx hb dX8_wash_67 rfl (lv_at hl 1 rfl) ?_
          refine lv_iload_n hx hb dX8_wash_68 rfl (lv_at hl 2 rfl) ?_
          refine W.eq (congrArg (fun z : Int32 => F0 mi 69 ls [.int x, .int z, .ref (ad (12, 0, 0))]) (show b = nI b.toNatClampNeg from ub)) ?_
          refine zafter_i C hw (zrunV (rest := []) C hml hl.1 hw (zn12 hL) rfl rfl (c_X8_headTin l D cy ad m1 H.size hL b.toNatClampNeg (by omega) x) zv_X8_142 rfl rfl rfl ⟨Nat.le_of_ble_eq_true rfl, Nat.le_of_ble_eq_true rfl⟩ rfl (Nat.le_of_ble_eq_true rfl) dX8_wash_69 ⟨Nat.zero_le _, Nat.zero_le _⟩) (fun r21 m20 H locs h19 hw => ?_)
          obtain ⟨er21, h19⟩ := h19
          rw [h19] at hw
          clear h19 m20
          refine lv_istore_n (lv' := [(3, .int r21), (0, .ref (ad (12, 0, 0))), (1, .int b), (2, .int x)]) hx hb dX8_wash_72 rfl hl (by decide) rfl (fun ls hl => ?_)
          refine lv_aload_n hx hb dX8_wash_73 rfl (lv_at hl 1 rfl) ?_
          refine lv_iload_n hx hb dX8_wash_74 rfl (lv_at hl 2 rfl) ?_
          refine lv_iload_n hx hb dX8_wash_75 rfl (lv_at hl 3 rfl) ?_
          refine W.eq (congrArg (fun z : Int32 => F0 mi 76 ls [.int x, .int z, .ref (ad (12, 0, 0))]) (show b = nI b.toNatClampNeg from ub)) ?_
          refine zafter_i C hw (zrunV (rest := []) C hml hl.1 hw (zn12 hL) rfl rfl (c_X8_headRock l D cy ad m1 H.size hL b.toNatClampNeg (by omega) x) zv_X8_145 rfl rfl rfl ⟨Nat.le_of_ble_eq_true rfl, Nat.le_of_ble_eq_true rfl⟩ rfl (Nat.le_of_ble_eq_true rfl) dX8_wash_76 ⟨Nat.zero_le _, Nat.zero_le _⟩) (fun r24 m23 H locs h22 hw => ?_)
          obtain ⟨er24, h22⟩ := h22
          rw [h22] at hw
          clear h22 m23
          refine lv_istore (lv' := [(4, .int r24), (3, .int r21), (0, .ref (ad (12, 0, 0))), (1, .int b), (2, .int x)]) hx hb dX8_wash_79 hl (by decide) rfl (fun ls hl => ?_)
          refine lv_aload_n hx hb dX8_wash_81 rfl (lv_at hl 2 rfl) ?_
          refine zg_X8_10 C hw (zn12 hL) dX8_wash_82 ?_
          refine zg_X8_129 C hw (zn13 hL (by decide)) dX8_wash_85 ?_
          refine lv_iconst (v := 2) hx hb dX8_wash_88 (by decide) ?_
          refine lv_iload_n hx hb dX8_wash_89 rfl (lv_at hl 3 rfl) ?_
          refine lv_imul hx hb dX8_wash_90 ?_
          refine lv_iconst (v := 1) hx hb dX8_wash_91 (by decide) ?_
          refine lv_iadd hx hb dX8_wash_92 ?_
          refine zaldN C hw (zq21 (w := 0) hL (by decide)) ((2 * b.toNatClampNeg) + 1) (by omega) (zadd (zmul rfl ub) rfl) (by decide) dX8_wash_93 ?_
          refine lv_iload_n hx hb dX8_wash_94 rfl (lv_at hl 1 rfl) ?_
          refine lv_isub hx hb dX8_wash_95 ?_
          refine lv_topi (fun x25 ex25 => ?_)
          refine lv_istore (lv' := [(5, .int x25), (4, .int r24), (3, .int r21), (0, .ref (ad (12, 0, 0))), (1, .int b), (2, .int x)]) hx hb dX8_wash_96 hl (by decide) rfl (fun ls hl => ?_)
          refine lv_aload_n hx hb dX8_wash_98 rfl (lv_at hl 3 rfl) ?_
          refine zg_X8_10 C hw (zn12 hL) dX8_wash_99 ?_
          refine zg_X8_129 C hw (zn13 hL (by decide)) dX8_wash_102 ?_
          refine lv_iconst (v := 2) hx hb dX8_wash_105 (by decide) ?_
          refine lv_iload_n hx hb dX8_wash_106 rfl (lv_at hl 4 rfl) ?_
          refine lv_imul hx hb dX8_wash_107 ?_
          refine zaldN C hw (zq21 (w := 0) hL (by decide)) (2 * b.toNatClampNeg) (by omega) (zmul rfl ub) (by decide) dX8_wash_108 ?_
          refine lv_iload hx hb dX8_wash_109 (lv_at hl 1 rfl) ?_
          refine lv_isub hx hb dX8_wash_111 ?_
          refine lv_topi (fun x26 ex26 => ?_)
          refine lv_istore (lv' := [(6, .int x26), (5, .int x25), (4, .int r24), (3, .int r21), (0, .ref (ad (12, 0, 0))), (1, .int b), (2, .int x)]) hx hb dX8_wash_112 hl (by decide) rfl (fun ls hl => ?_)
          refine lv_iload hx hb dX8_wash_114 (lv_at hl 1 rfl) ?_
          refine lv_iconst (v := 2) hx hb dX8_wash_116 (by decide) ?_
          refine lv_idiv hx hb dX8_wash_117 (by decide) ?_
          refine lv_iload hx hb dX8_wash_118 (lv_at hl 0 rfl) ?_
          refine lv_iconst (v := 2) hx hb dX8_wash_120 (by decide) ?_
          refine lv_idiv hx hb dX8_wash_121 (by decide) ?_
          refine lv_iadd hx hb dX8_wash_122 ?_
          refine lv_if_le (tgt := 142) hx hb dX8_wash_123 (by decide) (fun c123_27 => ?_) (fun c123_27 => ?_)
          · skip
            refine lv_aload_n hx hb dX8_wash_142 rfl (lv_at hl 4 rfl) ?_
            refine lv_dup hx hb dX8_wash_143 rfl ?_
            refine zg_X8_112 C hw (zn12 hL) dX8_wash_144 ?_
            refine lv_iload hx hb dX8_wash_147 (lv_at hl 1 rfl) ?_
            refine lv_iload hx hb dX8_wash_149 (lv_at hl 1 rfl) ?_
            refine lv_iconst (v := 2) hx hb dX8_wash_151 (by decide) ?_
            refine lv_idiv hx hb dX8_wash_152 (by decide) ?_
            refine lv_isub hx hb dX8_wash_153 ?_
            refine lv_iadd hx hb dX8_wash_154 ?_
            refine zp_X8_112 C hw (zn12 hL) dX8_wash_155 (fun H locs m28 em28 hw => ?_)
            refine lv_aload_n hx hb dX8_wash_158 rfl (lv_at hl 4 rfl) ?_
            refine lv_dup hx hb dX8_wash_159 rfl ?_
            refine zg_X8_115 C hw (zn12 hL) dX8_wash_160 ?_
            refine lv_iload hx hb dX8_wash_163 (lv_at hl 0 rfl) ?_
            refine lv_iload hx hb dX8_wash_165 (lv_at hl 0 rfl) ?_
            refine lv_iconst (v := 2) hx hb dX8_wash_167 (by decide) ?_
            refine lv_idiv hx hb dX8_wash_168 (by decide) ?_
            refine lv_isub hx hb dX8_wash_169 ?_
            refine lv_iadd hx hb dX8_wash_170 ?_
            refine zp_X8_115 C hw (zn12 hL) dX8_wash_171 (fun H locs m29 em29 hw => ?_)
            refine lv_aload_n hx hb dX8_wash_174 rfl (lv_at hl 4 rfl) ?_
            refine zg_X8_19 C hw (zn12 hL) dX8_wash_175 ?_
            refine lv_iconst (v := 0) hx hb dX8_wash_178 (by decide) ?_
            refine lv_dup2_11 hx hb dX8_wash_179 rfl rfl ?_
            refine zaldN C hw (zn2s hL) 0 (by omega) rfl (by decide) dX8_wash_180 ?_
            refine lv_iload hx hb dX8_wash_181 (lv_at hl 2 rfl) ?_
            refine lv_iadd hx hb dX8_wash_183 ?_
            refine zastN C hw (zn2s hL) 0 (by omega) rfl (by decide) dX8_wash_184 (fun H locs m30 em30 hw => ?_)
            refine lv_aload_n hx hb dX8_wash_185 rfl (lv_at hl 4 rfl) ?_
            refine zg_X8_19 C hw (zn12 hL) dX8_wash_186 ?_
            refine lv_iconst (v := 1) hx hb dX8_wash_189 (by decide) ?_
            refine lv_dup2_11 hx hb dX8_wash_190 rfl rfl ?_
            refine zaldN C hw (zn2s hL) 1 (by omega) rfl (by decide) dX8_wash_191 ?_
            refine lv_iload_n hx hb dX8_wash_192 rfl (lv_at hl 3 rfl) ?_
            refine lv_iadd hx hb dX8_wash_193 ?_
            refine zastN C hw (zn2s hL) 1 (by omega) rfl (by decide) dX8_wash_194 (fun H locs m31 em31 hw => ?_)
            refine lv_aload_n hx hb dX8_wash_195 rfl (lv_at hl 4 rfl) ?_
            refine zg_X8_10 C hw (zn12 hL) dX8_wash_196 ?_
            refine zg_X8_129 C hw (zn13 hL (by decide)) dX8_wash_199 ?_
            refine lv_iconst (v := 2) hx hb dX8_wash_202 (by decide) ?_
            refine lv_iload_n hx hb dX8_wash_203 rfl (lv_at hl 5 rfl) ?_
            refine lv_imul hx hb dX8_wash_204 ?_
            refine lv_iconst (v := 0) hx hb dX8_wash_205 (by decide) ?_
            refine zastN C hw (zq21 (w := 0) hL (by decide)) (2 * b.toNatClampNeg) (by omega) (zmul rfl ub) (by decide) dX8_wash_206 (fun H locs m32 em32 hw => ?_)
            refine lv_aload_n hx hb dX8_wash_207 rfl (lv_at hl 4 rfl) ?_
            refine zg_X8_10 C hw (zn12 hL) dX8_wash_208 ?_
            refine zg_X8_129 C hw (zn13 hL (by decide)) dX8_wash_211 ?_
            refine lv_iconst (v := 2) hx hb dX8_wash_214 (by decide) ?_
            refine lv_iload_n hx hb dX8_wash_215 rfl (lv_at hl 5 rfl) ?_
            refine lv_imul hx hb dX8_wash_216 ?_
            refine lv_iconst (v := 1) hx hb dX8_wash_217 (by decide) ?_
            refine lv_iadd hx hb dX8_wash_218 ?_
            refine lv_iconst (v := 0) hx hb dX8_wash_219 (by decide) ?_
            refine zastN C hw (zq21 (w := 0) hL (by decide)) ((2 * b.toNatClampNeg) + 1) (by omega) (zadd (zmul rfl ub) rfl) (by decide) dX8_wash_220 (fun H locs m33 em33 hw => ?_)
            refine lv_iload_n hx hb dX8_wash_221 rfl (lv_at hl 3 rfl) ?_
            exact zret_i C hr hlocks hw dX8_wash_222 (by subst_vars; exact zpair (((if_neg c11_5).trans ((if_neg c28_9).trans ((if_neg c45_13).trans (if_neg c57_17)))).trans (Prod.ext rfl (q8_wash_a c123_27))))
          · skip
            refine lv_aload_n hx hb dX8_wash_126 rfl (lv_at hl 4 rfl) ?_
            refine zg_X8_10 C hw (zn12 hL) dX8_wash_127 ?_
            refine lv_iload hx hb dX8_wash_130 (lv_at hl 0 rfl) ?_
            refine lv_iconst (v := 2) hx hb dX8_wash_132 (by decide) ?_
            refine lv_idiv hx hb dX8_wash_133 (by decide) ?_
            refine lv_iload hx hb dX8_wash_134 (lv_at hl 1 rfl) ?_
            refine lv_iconst (v := 2) hx hb dX8_wash_136 (by decide) ?_
            refine lv_idiv hx hb dX8_wash_137 (by decide) ?_
            refine lv_iconst (v := 1) hx hb dX8_wash_138 (by decide) ?_
            refine zafter_v C hw (zrunV (rest := []) C hml hl.1 hw (zn13 hL (by decide)) rfl rfl (c_X7_addLot l D cy ad m1 H.size hL (by decide) hln1 (by omega) (x26 / 2) (x25 / 2) 1) zv_X8_82 rfl rfl rfl ⟨Nat.le_of_ble_eq_true rfl, Nat.le_of_ble_eq_true rfl⟩ rfl (Nat.le_of_ble_eq_true rfl) dX8_wash_139 ⟨Nat.zero_le _, Nat.zero_le _⟩) (fun m35 H locs h34 hw => ?_)
            have em35 := h34
            refine lv_aload_n hx hb dX8_wash_142 rfl (lv_at hl 4 rfl) ?_
            refine lv_dup hx hb dX8_wash_143 rfl ?_
            refine zg_X8_112 C hw (zn12 hL) dX8_wash_144 ?_
            refine lv_iload hx hb dX8_wash_147 (lv_at hl 1 rfl) ?_
            refine lv_iload hx hb dX8_wash_149 (lv_at hl 1 rfl) ?_
            refine lv_iconst (v := 2) hx hb dX8_wash_151 (by decide) ?_
            refine lv_idiv hx hb dX8_wash_152 (by decide) ?_
            refine lv_isub hx hb dX8_wash_153 ?_
            refine lv_iadd hx hb dX8_wash_154 ?_
            refine zp_X8_112 C hw (zn12 hL) dX8_wash_155 (fun H locs m37 em37 hw => ?_)
            refine lv_aload_n hx hb dX8_wash_158 rfl (lv_at hl 4 rfl) ?_
            refine lv_dup hx hb dX8_wash_159 rfl ?_
            refine zg_X8_115 C hw (zn12 hL) dX8_wash_160 ?_
            refine lv_iload hx hb dX8_wash_163 (lv_at hl 0 rfl) ?_
            refine lv_iload hx hb dX8_wash_165 (lv_at hl 0 rfl) ?_
            refine lv_iconst (v := 2) hx hb dX8_wash_167 (by decide) ?_
            refine lv_idiv hx hb dX8_wash_168 (by decide) ?_
            refine lv_isub hx hb dX8_wash_169 ?_
            refine lv_iadd hx hb dX8_wash_170 ?_
            refine zp_X8_115 C hw (zn12 hL) dX8_wash_171 (fun H locs m38 em38 hw => ?_)
            refine lv_aload_n hx hb dX8_wash_174 rfl (lv_at hl 4 rfl) ?_
            refine zg_X8_19 C hw (zn12 hL) dX8_wash_175 ?_
            refine lv_iconst (v := 0) hx hb dX8_wash_178 (by decide) ?_
            refine lv_dup2_11 hx hb dX8_wash_179 rfl rfl ?_
            refine zaldN C hw (zn2s hL) 0 (by omega) rfl (by decide) dX8_wash_180 ?_
            refine lv_iload hx hb dX8_wash_181 (lv_at hl 2 rfl) ?_
            refine lv_iadd hx hb dX8_wash_183 ?_
            refine zastN C hw (zn2s hL) 0 (by omega) rfl (by decide) dX8_wash_184 (fun H locs m39 em39 hw => ?_)
            refine lv_aload_n hx hb dX8_wash_185 rfl (lv_at hl 4 rfl) ?_
            refine zg_X8_19 C hw (zn12 hL) dX8_wash_186 ?_
            refine lv_iconst (v := 1) hx hb dX8_wash_189 (by decide) ?_
            refine lv_dup2_11 hx hb dX8_wash_190 rfl rfl ?_
            refine zaldN C hw (zn2s hL) 1 (by omega) rfl (by decide) dX8_wash_191 ?_
            refine lv_iload_n hx hb dX8_wash_192 rfl (lv_at hl 3 rfl) ?_
            refine lv_iadd hx hb dX8_wash_193 ?_
            refine zastN C hw (zn2s hL) 1 (by omega) rfl (by decide) dX8_wash_194 (fun H locs m40 em40 hw => ?_)
            refine lv_aload_n hx hb dX8_wash_195 rfl (lv_at hl 4 rfl) ?_
            refine zg_X8_10 C hw (zn12 hL) dX8_wash_196 ?_
            refine zg_X8_129 C hw (zn13 hL (by decide)) dX8_wash_199 ?_
            refine lv_iconst (v := 2) hx hb dX8_wash_202 (by decide) ?_
            refine lv_iload_n hx hb dX8_wash_203 rfl (lv_at hl 5 rfl) ?_
            refine lv_imul hx hb dX8_wash_204 ?_
            refine lv_iconst (v := 0) hx hb dX8_wash_205 (by decide) ?_
            refine zastN C hw (zq21 (w := 0) hL (by decide)) (2 * b.toNatClampNeg) (by omega) (zmul rfl ub) (by decide) dX8_wash_206 (fun H locs m41 em41 hw => ?_)
            refine lv_aload_n hx hb dX8_wash_207 rfl (lv_at hl 4 rfl) ?_
            refine zg_X8_10 C hw (zn12 hL) dX8_wash_208 ?_
            refine zg_X8_129 C hw (zn13 hL (by decide)) dX8_wash_211 ?_
            refine lv_iconst (v := 2) hx hb dX8_wash_214 (by decide) ?_
            refine lv_iload_n hx hb dX8_wash_215 rfl (lv_at hl 5 rfl) ?_
            refine lv_imul hx hb dX8_wash_216 ?_
            refine lv_iconst (v := 1) hx hb dX8_wash_217 (by decide) ?_
            refine lv_iadd hx hb dX8_wash_218 ?_
            refine lv_iconst (v := 0) hx hb dX8_wash_219 (by decide) ?_
            refine zastN C hw (zq21 (w := 0) hL (by decide)) ((2 * b.toNatClampNeg) + 1) (by omega) (zadd (zmul rfl ub) rfl) (by decide) dX8_wash_220 (fun H locs m42 em42 hw => ?_)
            refine lv_iload_n hx hb dX8_wash_221 rfl (lv_at hl 3 rfl) ?_
            exact zret_i C hr hlocks hw dX8_wash_222 (by subst_vars; exact zpair (((if_neg c11_5).trans ((if_neg c28_9).trans ((if_neg c45_13).trans (if_neg c57_17)))).trans (Prod.ext rfl (q8_wash_b c123_27))))
        · skip
          have n43 := zeq c57_17 (a := ln) (b := 30) rfl rfl (by omega) (by omega)
          refine lv_aload_n hx hb dX8_wash_60 rfl (lv_at hl 0 rfl) ?_
          refine lv_iconst (v := 3) hx hb dX8_wash_61 (by decide) ?_
          refine zafter_i C hw (zrunV (rest := []) C hml hl.1 hw (zn12 hL) rfl rfl (c_X8_no l D cy ad m1 H.size hL 3) zv_X8_31 rfl rfl rfl ⟨Nat.le_of_ble_eq_true rfl, Nat.le_of_ble_eq_true rfl⟩ rfl (Nat.le_of_ble_eq_true rfl) dX8_wash_62 ⟨Nat.zero_le _, Nat.zero_le _⟩) (fun r46 m45 H locs h44 hw => ?_)
          obtain ⟨er46, em45⟩ := h44
          exact zret_i C hr hlocks hw dX8_wash_65 (by subst_vars; exact zpair ((if_neg c11_5).trans ((if_neg c28_9).trans ((if_neg c45_13).trans (if_pos c57_17)))))
    · skip
      rw [er8] at c28_9
      refine lv_aload_n hx hb dX8_wash_31 rfl (lv_at hl 0 rfl) ?_
      refine lv_iconst (v := 2) hx hb dX8_wash_32 (by decide) ?_
      refine zafter_i C hw (zrunV (rest := []) C hml hl.1 hw (zn12 hL) rfl rfl (c_X8_no l D cy ad m1 H.size hL 2) zv_X8_31 rfl rfl rfl ⟨Nat.le_of_ble_eq_true rfl, Nat.le_of_ble_eq_true rfl⟩ rfl (Nat.le_of_ble_eq_true rfl) dX8_wash_33 ⟨Nat.zero_le _, Nat.zero_le _⟩) (fun r49 m48 H locs h47 hw => ?_)
      obtain ⟨er49, em48⟩ := h47
      exact zret_i C hr hlocks hw dX8_wash_36 (by subst_vars; exact zpair ((if_neg c11_5).trans (if_pos c28_9)))
  · skip
    rw [er4] at c11_5
    refine lv_aload_n hx hb dX8_wash_14 rfl (lv_at hl 0 rfl) ?_
    refine lv_iconst (v := 1) hx hb dX8_wash_15 (by decide) ?_
    refine zafter_i C hw (zrunV (rest := []) C hml hl.1 hw (zn12 hL) rfl rfl (c_X8_no l D cy ad m1 H.size hL 1) zv_X8_31 rfl rfl rfl ⟨Nat.le_of_ble_eq_true rfl, Nat.le_of_ble_eq_true rfl⟩ rfl (Nat.le_of_ble_eq_true rfl) dX8_wash_16 ⟨Nat.zero_le _, Nat.zero_le _⟩) (fun r52 m51 H locs h50 hw => ?_)
    obtain ⟨er52, em51⟩ := h50
    exact zret_i C hr hlocks hw dX8_wash_19 (by subst_vars; exact zpair (if_pos c11_5))
