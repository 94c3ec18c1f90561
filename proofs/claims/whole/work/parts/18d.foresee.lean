
set_option maxHeartbeats 4000000 in
set_option maxRecDepth 100000 in
theorem c_X8_foresee (l : Launch) (D : va_G) (cy : Nat → ClassId) (ad : ZN → Nat) (m : ZM) (sz : Nat) {L : List ZN} (hL : zL L) {bc : Nat} {sc go : Nat → Nat} {hq ln : Nat} (G : gM m bc sc go hq ln) (lq : hq ≤ 5000) (h k : Int32) : Met l yX8_foresee (zws yX8_foresee cX8_foresee 4 (some .int)) ({ frames := 5, cells := 0, slots := 0, locals := 122 } : Room) (zPc D cy ad L m sz [.ref (ad (12, 0, 0)), .int h, .int k]) (zQi (fun r m1 => r = (q8_foresee m bc sc go hq h k).1 ∧ m1 = (q8_foresee m bc sc go hq h k).2) D cy ad L sz) 0 0 (zA ad L sz) := by
  refine zopen (Qc := fun sz => zQi (fun r m1 => r = (q8_foresee m bc sc go hq h k).1 ∧ m1 = (q8_foresee m bc sc go hq h k).2) D cy ad L sz) RX8 (plainFor_of_name (by decide)) rfl (Nat.le_of_ble_eq_true rfl) ?_
  intro p e s mi below meth c ls C hr hlocks hml hl H locs hw
  obtain ⟨hx, hb, hts, hown, hK, hNw⟩ := id C
  have hl : lv_has ls 4 [(0, .ref (ad (12, 0, 0))), (1, .int h), (2, .int k)] := hl
  refine lv_aload_n hx hb dX8_foresee_0 rfl (lv_at hl 0 rfl) ?_
  refine lv_iconst (v := 0) hx hb dX8_foresee_1 (by decide) ?_
  refine zp_X8_23 C hw (zn12 hL) dX8_foresee_2 (fun H locs m1 em1 hw => ?_)
  have GM1 : gM m1 bc sc go hq ln := by rw [em1]; exact gM_t G
  obtain ⟨⟨hbc1, lbc1, hbx1, hhd1, -, hhq1, lhq1, hld1⟩, hln1, lln1⟩ := id GM1
  refine lv_iload_n hx hb dX8_foresee_5 rfl (lv_at hl 1 rfl) ?_
  refine lv_iconst (v := 1) hx hb dX8_foresee_6 (by decide) ?_
  refine lv_bipush (v := 100) hx hb dX8_foresee_7 (by decide) ?_
  refine zafter_i C hw (zrunS (rest := []) C hml hl.1 hw (c_X8_isIn l D cy ad m1 H.size h 1 100) zv_X8_27 rfl rfl rfl ⟨Nat.le_of_ble_eq_true rfl, Nat.le_of_ble_eq_true rfl⟩ rfl (Nat.le_of_ble_eq_true rfl) dX8_foresee_9 ⟨Nat.zero_le _, Nat.zero_le _⟩) (fun r4 m3 H locs h2 hw => ?_)
  obtain ⟨er4, h2⟩ := h2
  rw [h2] at hw
  clear h2 m3
  refine lv_if_ne (tgt := 21) hx hb dX8_foresee_12 (by decide) (fun c12_5 => ?_) (fun c12_5 => ?_)
  · skip
    rw [er4] at c12_5
    obtain ⟨uh, uhl, uhu⟩ := q_isIn_ok (x := h) (a := 1) (b := 100) (by decide) (by decide) (fun q => c12_5 q)
    refine lv_iload_n hx hb dX8_foresee_21 rfl (lv_at hl 2 rfl) ?_
    refine lv_iconst (v := 0) hx hb dX8_foresee_22 (by decide) ?_
    refine lv_iconst (v := 4) hx hb dX8_foresee_23 (by decide) ?_
    refine zafter_i C hw (zrunS (rest := []) C hml hl.1 hw (c_X8_isIn l D cy ad m1 H.size k 0 4) zv_X8_27 rfl rfl rfl ⟨Nat.le_of_ble_eq_true rfl, Nat.le_of_ble_eq_true rfl⟩ rfl (Nat.le_of_ble_eq_true rfl) dX8_foresee_24 ⟨Nat.zero_le _, Nat.zero_le _⟩) (fun r8 m7 H locs h6 hw => ?_)
    obtain ⟨er8, h6⟩ := h6
    rw [h6] at hw
    clear h6 m7
    refine lv_if_ne (tgt := 36) hx hb dX8_foresee_27 (by decide) (fun c27_9 => ?_) (fun c27_9 => ?_)
    · skip
      rw [er8] at c27_9
      refine lv_aload_n hx hb dX8_foresee_36 rfl (lv_at hl 0 rfl) ?_
      refine zg_X8_10 C hw (zn12 hL) dX8_foresee_37 ?_
      refine zg_X8_93 C hw (zn13 hL (by decide)) dX8_foresee_40 ?_
      refine ztop hhq1 ?_
      refine lv_iload_n hx hb dX8_foresee_43 rfl (lv_at hl 1 rfl) ?_
      refine lv_iadd hx hb dX8_foresee_44 ?_
      refine lv_sipush (v := 5000) hx hb dX8_foresee_45 (by decide) ?_
      refine lv_icmp_le (tgt := 57) hx hb dX8_foresee_48 (by decide) (fun c48_10 => ?_) (fun c48_10 => ?_)
      · skip
        have n11 := zle c48_10 (a := (hq + h.toNatClampNeg)) (b := 5000) (zadd rfl uh) rfl (by omega) (by omega)
        refine lv_aload_n hx hb dX8_foresee_57 rfl (lv_at hl 0 rfl) ?_
        refine zg_X8_16 C hw (zn12 hL) dX8_foresee_58 ?_
        refine lv_aload_n hx hb dX8_foresee_61 rfl (lv_at hl 0 rfl) ?_
        refine zg_X8_10 C hw (zn12 hL) dX8_foresee_62 ?_
        refine zafter_v C hw (zrunV (rest := []) C hml hl.1 hw (zn13 hL (by decide)) rfl rfl (c_X7_become l D cy ad m1 H.size hL (by decide) (by decide)) zv_X8_157 rfl rfl rfl ⟨Nat.le_of_ble_eq_true rfl, Nat.le_of_ble_eq_true rfl⟩ rfl (Nat.le_of_ble_eq_true rfl) dX8_foresee_65 ⟨Nat.zero_le _, Nat.zero_le _⟩) (fun m13 H locs h12 hw => ?_)
        have em13 := h12
        have GA : gS m13 1 bc sc go hq := by rw [em13]; exact gS_become GM1.1
        refine lv_aload_n hx hb dX8_foresee_68 rfl (lv_at hl 0 rfl) ?_
        refine zg_X8_16 C hw (zn12 hL) dX8_foresee_69 ?_
        refine lv_iload_n hx hb dX8_foresee_72 rfl (lv_at hl 1 rfl) ?_
        refine W.eq (congrArg (fun z : Int32 => F0 mi 73 ls [.int z, .ref (ad (13, 1, 0))]) (show h = nI h.toNatClampNeg from uh)) ?_
        refine zafter_i C hw (zrunS (rest := []) C hml hl.1 hw (c_X8_run l D cy ad m13 H.size hL (by decide) GA h.toNatClampNeg (by omega) (by omega)) zv_X8_96 rfl rfl rfl ⟨Nat.le_of_ble_eq_true rfl, Nat.le_of_ble_eq_true rfl⟩ rfl (Nat.le_of_ble_eq_true rfl) dX8_foresee_73 ⟨Nat.zero_le _, Nat.zero_le _⟩) (fun r17 m16 H locs h15 hw => ?_)
        obtain ⟨er17, em16⟩ := h15
        have GB : gS m16 1 bc sc go (hq + h.toNatClampNeg) := by rw [em16]; exact gS_run GA (by omega)
        obtain ⟨-, -, -, -, ⟨lnB, hlnB, llnB, -⟩, -⟩ := id GB
        refine lv_istore_n (lv' := [(3, .int r17), (0, .ref (ad (12, 0, 0))), (1, .int h), (2, .int k)]) hx hb dX8_foresee_76 rfl hl (by decide) rfl (fun ls hl => ?_)
        refine lv_iload_n hx hb dX8_foresee_77 rfl (lv_at hl 3 rfl) ?_
        refine lv_if_ne (tgt := 85) hx hb dX8_foresee_78 (by decide) (fun c78_18 => ?_) (fun c78_18 => ?_)
        · skip
          refine lv_iload_n hx hb dX8_foresee_85 rfl (lv_at hl 3 rfl) ?_
          refine lv_iconst (v := 1) hx hb dX8_foresee_86 (by decide) ?_
          refine lv_icmp_ne (tgt := 100) hx hb dX8_foresee_87 (by decide) (fun c87_19 => ?_) (fun c87_19 => ?_)
          · skip
            refine lv_iload_n hx hb dX8_foresee_100 rfl (lv_at hl 3 rfl) ?_
            refine lv_iconst (v := 2) hx hb dX8_foresee_101 (by decide) ?_
            refine lv_icmp_ne (tgt := 115) hx hb dX8_foresee_102 (by decide) (fun c102_20 => ?_) (fun c102_20 => ?_)
            · skip
              refine lv_iload_n hx hb dX8_foresee_115 rfl (lv_at hl 3 rfl) ?_
              refine lv_iconst (v := 3) hx hb dX8_foresee_116 (by decide) ?_
              refine lv_icmp_ne (tgt := 138) hx hb dX8_foresee_117 (by decide) (fun c117_21 => ?_) (fun c117_21 => ?_)
              · skip
                refine lv_aload_n hx hb dX8_foresee_138 rfl (lv_at hl 1 rfl) ?_
                refine zg_X8_16 C hw (zn12 hL) dX8_foresee_139 ?_
                refine zafter_i C hw (zrunV (rest := []) C hml hl.1 hw (zn13 hL (by decide)) rfl rfl (c_X7_inHopper l D cy ad m16 H.size hL (by decide) hlnB llnB) zv_X8_103 rfl rfl rfl ⟨Nat.le_of_ble_eq_true rfl, Nat.le_of_ble_eq_true rfl⟩ rfl (Nat.le_of_ble_eq_true rfl) dX8_foresee_142 ⟨Nat.zero_le _, Nat.zero_le _⟩) (fun r24 m23 H locs h22 hw => ?_)
                obtain ⟨er24, h22⟩ := h22
                rw [h22] at hw
                clear h22 m23
                exact zret_i C hr hlocks hw dX8_foresee_145 (by have hB : (m16 (13, 1, 0) 14).toNatClampNeg = lnB := (by rw [hlnB]; exact nI_clamp (by omega)); subst hB; subst_vars; exact zpair ((if_neg c12_5).trans ((if_neg c27_9).trans ((if_pos c48_10).trans ((if_neg c78_18).trans ((if_neg c87_19).trans ((if_neg c102_20).trans (if_neg c117_21))))))))
              · skip
                refine lv_aload_n hx hb dX8_foresee_120 rfl (lv_at hl 1 rfl) ?_
                refine zg_X8_16 C hw (zn12 hL) dX8_foresee_121 ?_
                refine zg_X8_109 C hw (zn13 hL (by decide)) dX8_foresee_124 ?_
                refine lv_aload_n hx hb dX8_foresee_127 rfl (lv_at hl 1 rfl) ?_
                refine zg_X8_10 C hw (zn12 hL) dX8_foresee_128 ?_
                refine zg_X8_109 C hw (zn13 hL (by decide)) dX8_foresee_131 ?_
                refine lv_isub hx hb dX8_foresee_134 ?_
                refine lv_goto (tgt := 145) hx hb dX8_foresee_135 (by decide) ?_
                exact zret_i C hr hlocks hw dX8_foresee_145 (by replace c117_21 := eq_true c117_21; subst_vars; exact zpair ((if_neg c12_5).trans ((if_neg c27_9).trans ((if_pos c48_10).trans ((if_neg c78_18).trans ((if_neg c87_19).trans ((if_neg c102_20).trans (if_pos (of_eq_true c117_21)))))))))
            · skip
              refine lv_aload_n hx hb dX8_foresee_105 rfl (lv_at hl 1 rfl) ?_
              refine zg_X8_16 C hw (zn12 hL) dX8_foresee_106 ?_
              refine zafter_i C hw (zrunV (rest := []) C hml hl.1 hw (zn13 hL (by decide)) rfl rfl (c_X7_tinInBuddles l D cy ad m16 H.size hL (by decide)) zv_X8_161 rfl rfl rfl ⟨Nat.le_of_ble_eq_true rfl, Nat.le_of_ble_eq_true rfl⟩ rfl (Nat.le_of_ble_eq_true rfl) dX8_foresee_109 ⟨Nat.zero_le _, Nat.zero_le _⟩) (fun r27 m26 H locs h25 hw => ?_)
              obtain ⟨er27, h25⟩ := h25
              rw [h25] at hw
              clear h25 m26
              refine lv_goto (tgt := 145) hx hb dX8_foresee_112 (by decide) ?_
              exact zret_i C hr hlocks hw dX8_foresee_145 (by replace c102_20 := eq_true c102_20; subst_vars; exact zpair ((if_neg c12_5).trans ((if_neg c27_9).trans ((if_pos c48_10).trans ((if_neg c78_18).trans ((if_neg c87_19).trans (if_pos (of_eq_true c102_20))))))))
          · skip
            refine lv_aload_n hx hb dX8_foresee_90 rfl (lv_at hl 1 rfl) ?_
            refine zg_X8_16 C hw (zn12 hL) dX8_foresee_91 ?_
            refine zg_X8_100 C hw (zn13 hL (by decide)) dX8_foresee_94 ?_
            refine lv_goto (tgt := 145) hx hb dX8_foresee_97 (by decide) ?_
            exact zret_i C hr hlocks hw dX8_foresee_145 (by replace c87_19 := eq_true c87_19; subst_vars; exact zpair ((if_neg c12_5).trans ((if_neg c27_9).trans ((if_pos c48_10).trans ((if_neg c78_18).trans (if_pos (of_eq_true c87_19)))))))
        · skip
          refine lv_iload_n hx hb dX8_foresee_81 rfl (lv_at hl 0 rfl) ?_
          refine lv_goto (tgt := 145) hx hb dX8_foresee_82 (by decide) ?_
          exact zret_i C hr hlocks hw dX8_foresee_145 (by replace c78_18 := eq_true c78_18; subst_vars; exact zpair ((if_neg c12_5).trans ((if_neg c27_9).trans ((if_pos c48_10).trans (if_pos (of_eq_true c78_18))))))
      · skip
        have n28 := znle c48_10 (a := (hq + h.toNatClampNeg)) (b := 5000) (zadd rfl uh) rfl (by omega) (by omega)
        refine lv_aload_n hx hb dX8_foresee_51 rfl (lv_at hl 0 rfl) ?_
        refine lv_iconst (v := 3) hx hb dX8_foresee_52 (by decide) ?_
        refine zafter_i C hw (zrunV (rest := []) C hml hl.1 hw (zn12 hL) rfl rfl (c_X8_no l D cy ad m1 H.size hL 3) zv_X8_31 rfl rfl rfl ⟨Nat.le_of_ble_eq_true rfl, Nat.le_of_ble_eq_true rfl⟩ rfl (Nat.le_of_ble_eq_true rfl) dX8_foresee_53 ⟨Nat.zero_le _, Nat.zero_le _⟩) (fun r31 m30 H locs h29 hw => ?_)
        obtain ⟨er31, em30⟩ := h29
        exact zret_i C hr hlocks hw dX8_foresee_56 (by subst_vars; exact zpair ((if_neg c12_5).trans ((if_neg c27_9).trans (if_neg c48_10))))
    · skip
      rw [er8] at c27_9
      refine lv_aload_n hx hb dX8_foresee_30 rfl (lv_at hl 0 rfl) ?_
      refine lv_iconst (v := 2) hx hb dX8_foresee_31 (by decide) ?_
      refine zafter_i C hw (zrunV (rest := []) C hml hl.1 hw (zn12 hL) rfl rfl (c_X8_no l D cy ad m1 H.size hL 2) zv_X8_31 rfl rfl rfl ⟨Nat.le_of_ble_eq_true rfl, Nat.le_of_ble_eq_true rfl⟩ rfl (Nat.le_of_ble_eq_true rfl) dX8_foresee_32 ⟨Nat.zero_le _, Nat.zero_le _⟩) (fun r34 m33 H locs h32 hw => ?_)
      obtain ⟨er34, em33⟩ := h32
      exact zret_i C hr hlocks hw dX8_foresee_35 (by subst_vars; exact zpair ((if_neg c12_5).trans (if_pos c27_9)))
  · skip
    rw [er4] at c12_5
    refine lv_aload_n hx hb dX8_foresee_15 rfl (lv_at hl 0 rfl) ?_
    refine lv_iconst (v := 1) hx hb dX8_foresee_16 (by decide) ?_
    refine zafter_i C hw (zrunV (rest := []) C hml hl.1 hw (zn12 hL) rfl rfl (c_X8_no l D cy ad m1 H.size hL 1) zv_X8_31 rfl rfl rfl ⟨Nat.le_of_ble_eq_true rfl, Nat.le_of_ble_eq_true rfl⟩ rfl (Nat.le_of_ble_eq_true rfl) dX8_foresee_17 ⟨Nat.zero_le _, Nat.zero_le _⟩) (fun r37 m36 H locs h35 hw => ?_)
    obtain ⟨er37, em36⟩ := h35
    exact zret_i C hr hlocks hw dX8_foresee_20 (by subst_vars; exact zpair (if_pos c12_5))
