/-! the law: the share, the digest, the loop (by program: wip/whole/sp24.py) -/
set_option maxHeartbeats 4000000 in
set_option maxRecDepth 100000 in
theorem lw_case_share {p : Program} {l : Launch} {e : Env} {s : State} {mi : MethodId} {below : List Frame} {meth : Method} {c : Code} {b LX : Nat} {xs : Nat → Int32} {D : va_G} {cy : Nat → ClassId} {ad : ZN → Nat} {L : List ZN} (F : lwF l p s mi meth c b LX xs D cy ad L) {n : Nat} (hn : 4 * n + 4 ≤ LX) (K : lwK p l e s mi below meth c b D cy ad L (n + 1) n 1351) : lwK p l e s mi below meth c b D cy ad L n n 1296 := by
  intro d0 hd0 H locs ls m bc sc bu hq f cn R hw hl
  obtain ⟨hst, C0, E, N, hX, hbl, hbA, hAs, hr, hlocks, hml, hL, hn0, hn1, hLX⟩ := id F
  have C := zX_d0 d0 C0
  have hx := C.1
  have hb := C.2.1
  have aq : q6_share m = q8_share (q8_z m) := ans_share (RQ_z R) (by omega)
  refine lv_aload_n hx hb dL_law_1296 rfl (lv_at hl 3 rfl) ?_
  refine zcallD (As := []) (rest := []) hd0 C hml hl.1 hw (zn0 hL) rfl rfl (c_X6_share l D cy ad m H.size hL) zv_L_140 rfl rfl rfl ⟨Nat.le_of_ble_eq_true rfl, Nat.le_of_ble_eq_true rfl⟩ rfl (Nat.le_of_ble_eq_true rfl) dL_law_1297 ⟨(show 300 + 20 * n ≤ 601024 by omega), (show 1500 + 220 * n ≤ 7293034 by omega)⟩ (fun r1 m1 H locs hr1 hw d1 hd1 => ?_)
  obtain ⟨a1, e1⟩ := hr1
  rw [e1] at hw
  rw [aq] at a1
  have C := zX_d0 d1 C0
  have hx := C.1
  have hb := C.2.1
  refine lv_dstore (lv' := (5, .double r1) :: lwl b ad (nI (4 * n))) hx hb dL_law_1300 hl (by decide) rfl (fun ls hl => ?_)
  refine lv_aload_n hx hb dL_law_1302 rfl (lv_at hl 3 rfl) ?_
  refine zcallD (As := []) (rest := []) hd1 C hml hl.1 hw (zn12 hL) rfl rfl (c_X8_share l D cy ad m H.size hL) zv_L_144 rfl rfl rfl ⟨Nat.le_of_ble_eq_true rfl, Nat.le_of_ble_eq_true rfl⟩ rfl (Nat.le_of_ble_eq_true rfl) dL_law_1303 ⟨(show 300 + 20 * n ≤ 601024 by omega), (show 1500 + 220 * n ≤ 7293034 by omega)⟩ (fun r2 m2 H locs hr2 hw d2 hd2 => ?_)
  obtain ⟨a2, e2⟩ := hr2
  rw [e2] at hw
  have C := zX_d0 d2 C0
  have hx := C.1
  have hb := C.2.1
  refine lv_dstore (lv' := (7, .double r2) :: (5, .double r1) :: lwl b ad (nI (4 * n))) hx hb dL_law_1306 hl (by decide) rfl (fun ls hl => ?_)
  have fin : W p l e room_1 (s.setDrawn d2) mi #[Value.ref b] below meth c H locs (300 + 20 * n) (1500 + 220 * n) (lw_Z below #[Value.ref b] s) (F0 mi 1334 ls []) := by
    refine lv_goto (tgt := 1351) hx hb dL_law_1334 (by decide) ?_
    refine W.widen (k := 300 + 20 * (n + 1)) (n := 1500 + 220 * (n + 1)) (by omega) (by omega) ?_
    exact K d2 hd2 H locs ls (q8_z m) bc sc bu hq f cn (RQ_z2 R) hw (lv_sub hl [2, 3, 4, 5, 6] rfl)
  refine lv_dload hx hb dL_law_1308 (lv_at hl 1 rfl) ?_
  refine lv_dload hx hb dL_law_1310 (lv_at hl 0 rfl) ?_
  refine lv_dcmp hx hb dL_law_1312 ?_
  refine lv_if_eq (tgt := 1334) hx hb dL_law_1313 (by decide) (fun _ => fin) (fun z => ?_)
  obtain ⟨g1, g2⟩ := lw_alike a1 a2 z
  refine lv_dload hx hb dL_law_1316 (lv_at hl 1 rfl) ?_
  refine lv_dload hx hb dL_law_1318 (lv_at hl 1 rfl) ?_
  refine lv_dcmp hx hb dL_law_1320 ?_
  refine lv_if_eq (tgt := 1332) hx hb dL_law_1321 (by decide) (fun z => absurd z g1) (fun _ => ?_)
  refine lv_dload hx hb dL_law_1324 (lv_at hl 0 rfl) ?_
  refine lv_dload hx hb dL_law_1326 (lv_at hl 0 rfl) ?_
  refine lv_dcmp hx hb dL_law_1328 ?_
  exact lv_if_ne (tgt := 1334) hx hb dL_law_1329 (by decide) (fun _ => fin) (fun z => absurd z g2)
set_option maxHeartbeats 4000000 in
set_option maxRecDepth 100000 in
theorem lw_case_digest {p : Program} {l : Launch} {e : Env} {s : State} {mi : MethodId} {below : List Frame} {meth : Method} {c : Code} {b LX : Nat} {xs : Nat → Int32} {D : va_G} {cy : Nat → ClassId} {ad : ZN → Nat} {L : List ZN} (F : lwF l p s mi meth c b LX xs D cy ad L) {n : Nat} (hn : 4 * n + 4 ≤ LX) (K : lwK p l e s mi below meth c b D cy ad L (n + 1) n 1351) : lwK p l e s mi below meth c b D cy ad L n n 1337 := by
  intro d0 hd0 H locs ls m bc sc bu hq f cn R hw hl
  obtain ⟨hst, C0, E, N, hX, hbl, hbA, hAs, hr, hlocks, hml, hL, hn0, hn1, hLX⟩ := id F
  have C := zX_d0 d0 C0
  have hx := C.1
  have hb := C.2.1
  have hw : zH D cy ad L (s.setDrawn d0).heap H locs m := hw
  have aq : q_digest m bc sc f cn = q8_digest (q8_z m) bc cn sc := ans_digest (RQ_z R)
  refine lv_aload_n hx hb dL_law_1337 rfl (lv_at hl 3 rfl) ?_
  refine zafter_lC C hw (zrunV (As := []) (rest := []) C hml hl.1 hw (zn0 hL) rfl rfl (c_X6_digest l D cy ad m H.size hL (RQ_gW R) R.2.2.1.1 R.2.2.1.2.1 R.2.2.1.2.2.1 R.2.2.1.2.2.2.2.1) zv_L_145 rfl rfl rfl ⟨Nat.le_of_ble_eq_true rfl, Nat.le_of_ble_eq_true rfl⟩ rfl (Nat.le_of_ble_eq_true rfl) dL_law_1338 ⟨(show (300 + 20 * n) + 0 ≤ 601024 by omega), (show (1500 + 220 * n) + 0 ≤ 7293034 by omega)⟩) (fun r1 m1 H locs hr1 hw => ?_)
  obtain ⟨e1, e2⟩ := hr1
  rw [e2] at hw
  refine lv_aload_n hx hb dL_law_1341 rfl (lv_at hl 2 rfl) ?_
  refine zafter_lC C hw (zrunV (As := []) (rest := [.long r1]) C hml hl.1 hw (zn12 hL) rfl rfl (c_X8_digest l D cy ad m H.size hL hn0 (RQ_gM R)) zv_L_149 rfl rfl rfl ⟨Nat.le_of_ble_eq_true rfl, Nat.le_of_ble_eq_true rfl⟩ rfl (Nat.le_of_ble_eq_true rfl) dL_law_1342 ⟨(show (300 + 20 * n) + 0 + 14 ≤ 601024 by omega), (show (1500 + 220 * n) + 0 + 196 ≤ 7293034 by omega)⟩) (fun r2 m2 H locs hr2 hw => ?_)
  obtain ⟨e3, e4⟩ := hr2
  rw [e4] at hw
  refine W.lcmp hx hb dL_law_1345 ?_
  refine lv_if_eq (tgt := 1351) hx hb dL_law_1346 (by decide) (fun _ => ?_) (fun z => absurd (by rw [e1, e3, aq]; exact lw_cmp0) z)
  refine W.widen (k := 300 + 20 * (n + 1)) (n := 1500 + 220 * (n + 1)) (by omega) (by omega) ?_
  exact K d0 hd0 H locs ls (q8_z m) bc sc bu hq f cn (RQ_z2 R) hw hl
theorem lw_sw20 {x : Int32} (h0 : ¬ x = 0) (h1 : ¬ x = 1) (h2 : ¬ x = 2) (h3 : ¬ x = 3) (h4 : ¬ x = 4) (h5 : ¬ x = 5) (h6 : ¬ x = 6) (h7 : ¬ x = 7) (h8 : ¬ x = 8) (h9 : ¬ x = 9) (h10 : ¬ x = 10) (h11 : ¬ x = 11) (h12 : ¬ x = 12) (h13 : ¬ x = 13) (h14 : ¬ x = 14) (h15 : ¬ x = 15) (h16 : ¬ x = 16) (h17 : ¬ x = 17) (h18 : ¬ x = 18) (h19 : ¬ x = 19) : x.toInt < 0 ∨ 19 < x.toInt := by
  have g0 := lv_neT h0 (a := 0) rfl
  have g1 := lv_neT h1 (a := 1) rfl
  have g2 := lv_neT h2 (a := 2) rfl
  have g3 := lv_neT h3 (a := 3) rfl
  have g4 := lv_neT h4 (a := 4) rfl
  have g5 := lv_neT h5 (a := 5) rfl
  have g6 := lv_neT h6 (a := 6) rfl
  have g7 := lv_neT h7 (a := 7) rfl
  have g8 := lv_neT h8 (a := 8) rfl
  have g9 := lv_neT h9 (a := 9) rfl
  have g10 := lv_neT h10 (a := 10) rfl
  have g11 := lv_neT h11 (a := 11) rfl
  have g12 := lv_neT h12 (a := 12) rfl
  have g13 := lv_neT h13 (a := 13) rfl
  have g14 := lv_neT h14 (a := 14) rfl
  have g15 := lv_neT h15 (a := 15) rfl
  have g16 := lv_neT h16 (a := 16) rfl
  have g17 := lv_neT h17 (a := 17) rfl
  have g18 := lv_neT h18 (a := 18) rfl
  have g19 := lv_neT h19 (a := 19) rfl
  omega
set_option maxHeartbeats 4000000 in
set_option maxRecDepth 100000 in
theorem lw_step {p : Program} {l : Launch} {e : Env} {s : State} {mi : MethodId} {below : List Frame} {meth : Method} {c : Code} {b LX : Nat} {xs : Nat → Int32} {D : va_G} {cy : Nat → ClassId} {ad : ZN → Nat} {L : List ZN} (F : lwF l p s mi meth c b LX xs D cy ad L) {n : Nat} (hn : 4 * n + 4 ≤ LX) (K : lwK p l e s mi below meth c b D cy ad L (n + 1) n 1351) : lwK p l e s mi below meth c b D cy ad L n n 32 := by
  intro d0 hd0 H locs ls m bc sc bu hq f cn R hw hl
  obtain ⟨hst, C0, E, N, hX, hbl, hbA, hAs, hr, hlocks, hml, hL, hn0, hn1, hLX⟩ := id F
  have C := zX_d0 d0 C0
  have hx := C.1
  have hb := C.2.1
  refine lv_aload_n hx hb dL_law_32 rfl (lv_at hl 4 rfl) ?_
  refine lv_iload hx hb dL_law_33 (lv_at hl 0 rfl) ?_
  refine lw_sld F hw (k := 4 * n) rfl (by omega) dL_law_35 ?_
  refine lv_bipush (v := 31) hx hb dL_law_36 (by decide) ?_
  refine lv_iand hx hb dL_law_38 ?_
  refine lv_topi (fun y ey => ?_)
  by_cases h0 : y = 0
  · exact lv_tableIn (off := 93) (tgt := 132) hx hb dL_law_39 (by rw [h0]; decide) (by rw [h0]; decide) (by rw [h0]; rfl) (by decide) (lw_case_setInflow F hn K d0 hd0 H locs ls m bc sc bu hq f cn R hw hl)
  by_cases h1 : y = 1
  · exact lv_tableIn (off := 161) (tgt := 200) hx hb dL_law_39 (by rw [h1]; decide) (by rw [h1]; decide) (by rw [h1]; rfl) (by decide) (lw_case_setSluice F hn K d0 hd0 H locs ls m bc sc bu hq f cn R hw hl)
  by_cases h2 : y = 2
  · exact lv_tableIn (off := 217) (tgt := 256) hx hb dL_law_39 (by rw [h2]; decide) (by rw [h2]; decide) (by rw [h2]; rfl) (by decide) (lw_case_addBox F hn K d0 hd0 H locs ls m bc sc bu hq f cn R hw hl)
  by_cases h3 : y = 3
  · exact lv_tableIn (off := 261) (tgt := 300) hx hb dL_law_39 (by rw [h3]; decide) (by rw [h3]; decide) (by rw [h3]; rfl) (by decide) (lw_case_hang F hn K d0 hd0 H locs ls m bc sc bu hq f cn R hw hl)
  by_cases h4 : y = 4
  · exact lv_tableIn (off := 341) (tgt := 380) hx hb dL_law_39 (by rw [h4]; decide) (by rw [h4]; decide) (by rw [h4]; rfl) (by decide) (lw_case_shoe F hn K d0 hd0 H locs ls m bc sc bu hq f cn R hw hl)
  by_cases h5 : y = 5
  · exact lv_tableIn (off := 409) (tgt := 448) hx hb dL_law_39 (by rw [h5]; decide) (by rw [h5]; decide) (by rw [h5]; rfl) (by decide) (lw_case_setBox F hn K d0 hd0 H locs ls m bc sc bu hq f cn R hw hl)
  by_cases h6 : y = 6
  · exact lv_tableIn (off := 489) (tgt := 528) hx hb dL_law_39 (by rw [h6]; decide) (by rw [h6]; decide) (by rw [h6]; rfl) (by decide) (lw_case_box F hn K d0 hd0 H locs ls m bc sc bu hq f cn R hw hl)
  by_cases h7 : y = 7
  · exact lv_tableIn (off := 557) (tgt := 596) hx hb dL_law_39 (by rw [h7]; decide) (by rw [h7]; decide) (by rw [h7]; rfl) (by decide) (lw_case_bring F hn K d0 hd0 H locs ls m bc sc bu hq f cn R hw hl)
  by_cases h8 : y = 8
  · exact lv_tableIn (off := 637) (tgt := 676) hx hb dL_law_39 (by rw [h8]; decide) (by rw [h8]; decide) (by rw [h8]; rfl) (by decide) (lw_case_lot F hn K d0 hd0 H locs ls m bc sc bu hq f cn R hw hl)
  by_cases h9 : y = 9
  · exact lv_tableIn (off := 705) (tgt := 744) hx hb dL_law_39 (by rw [h9]; decide) (by rw [h9]; decide) (by rw [h9]; rfl) (by decide) (lw_case_run F hn K d0 hd0 H locs ls m bc sc bu hq f cn R hw hl)
  by_cases h10 : y = 10
  · exact lv_tableIn (off := 761) (tgt := 800) hx hb dL_law_39 (by rw [h10]; decide) (by rw [h10]; decide) (by rw [h10]; rfl) (by decide) (lw_case_count F hn K d0 hd0 H locs ls m bc sc bu hq f cn R hw hl)
  by_cases h11 : y = 11
  · exact lv_tableIn (off := 817) (tgt := 856) hx hb dL_law_39 (by rw [h11]; decide) (by rw [h11]; decide) (by rw [h11]; rfl) (by decide) (lw_case_buddle F hn K d0 hd0 H locs ls m bc sc bu hq f cn R hw hl)
  by_cases h12 : y = 12
  · exact lv_tableIn (off := 885) (tgt := 924) hx hb dL_law_39 (by rw [h12]; decide) (by rw [h12]; decide) (by rw [h12]; rfl) (by decide) (lw_case_wash F hn K d0 hd0 H locs ls m bc sc bu hq f cn R hw hl)
  by_cases h13 : y = 13
  · exact lv_tableIn (off := 953) (tgt := 992) hx hb dL_law_39 (by rw [h13]; decide) (by rw [h13]; decide) (by rw [h13]; rfl) (by decide) (lw_case_again F hn K d0 hd0 H locs ls m bc sc bu hq f cn R hw hl)
  by_cases h14 : y = 14
  · exact lv_tableIn (off := 1009) (tgt := 1048) hx hb dL_law_39 (by rw [h14]; decide) (by rw [h14]; decide) (by rw [h14]; rfl) (by decide) (lw_case_smelt F hn K d0 hd0 H locs ls m bc sc bu hq f cn R hw hl)
  by_cases h15 : y = 15
  · exact lv_tableIn (off := 1065) (tgt := 1104) hx hb dL_law_39 (by rw [h15]; decide) (by rw [h15]; decide) (by rw [h15]; rfl) (by decide) (lw_case_foresee F hn K d0 hd0 H locs ls m bc sc bu hq f cn R hw hl)
  by_cases h16 : y = 16
  · exact lv_tableIn (off := 1133) (tgt := 1172) hx hb dL_law_39 (by rw [h16]; decide) (by rw [h16]; decide) (by rw [h16]; rfl) (by decide) (lw_case_advise F hn K d0 hd0 H locs ls m bc sc bu hq f cn R hw hl)
  by_cases h17 : y = 17
  · exact lv_tableIn (off := 1189) (tgt := 1228) hx hb dL_law_39 (by rw [h17]; decide) (by rw [h17]; decide) (by rw [h17]; rfl) (by decide) (lw_case_bestWater F hn K d0 hd0 H locs ls m bc sc bu hq f cn R hw hl)
  by_cases h18 : y = 18
  · exact lv_tableIn (off := 1257) (tgt := 1296) hx hb dL_law_39 (by rw [h18]; decide) (by rw [h18]; decide) (by rw [h18]; rfl) (by decide) (lw_case_share F hn K d0 hd0 H locs ls m bc sc bu hq f cn R hw hl)
  by_cases h19 : y = 19
  · exact lv_tableIn (off := 1298) (tgt := 1337) hx hb dL_law_39 (by rw [h19]; decide) (by rw [h19]; decide) (by rw [h19]; rfl) (by decide) (lw_case_digest F hn K d0 hd0 H locs ls m bc sc bu hq f cn R hw hl)
  refine lv_tableOut (tgt := 1351) hx hb dL_law_39 (lw_sw20 h0 h1 h2 h3 h4 h5 h6 h7 h8 h9 h10 h11 h12 h13 h14 h15 h16 h17 h18 h19) (by decide) ?_
  refine W.widen (k := 300 + 20 * (n + 1)) (n := 1500 + 220 * (n + 1)) (by omega) (by omega) ?_
  exact K d0 hd0 H locs ls m bc sc bu hq f cn (RQ_up R (Nat.le_succ n)) hw hl
theorem lw_sub4 {LX n : Nat} (hLX : LX ≤ 2048) (hn : 4 * n ≤ LX) : nI LX - 4 < nI (4 * n) ↔ LX < 4 * n + 4 := by
  by_cases h : 4 ≤ LX
  · rw [show nI LX - 4 = nI (LX - 4) from zsub (b := 4) rfl rfl h, nI_ltI (by omega) (by omega)]
    omega
  · have h1 : nI LX - 4 < 0 := by
      rcases (show LX = 0 ∨ LX = 1 ∨ LX = 2 ∨ LX = 3 by omega) with rfl | rfl | rfl | rfl <;> decide
    have h2 : 0 ≤ nI (4 * n) := nI_pos' (by omega)
    exact ⟨fun _ => by omega, fun _ => Int32.lt_of_lt_of_le h1 h2⟩
set_option maxHeartbeats 4000000 in
set_option maxRecDepth 100000 in
theorem lw_head {p : Program} {l : Launch} {e : Env} {s : State} {mi : MethodId} {below : List Frame} {meth : Method} {c : Code} {b LX : Nat} {xs : Nat → Int32} {D : va_G} {cy : Nat → ClassId} {ad : ZN → Nat} {L : List ZN} (F : lwF l p s mi meth c b LX xs D cy ad L) {n : Nat} (hn : 4 * n ≤ LX) (K : 4 * n + 4 ≤ LX → lwK p l e s mi below meth c b D cy ad L n n 32) : lwK p l e s mi below meth c b D cy ad L n n 23 := by
  intro d0 hd0 H locs ls m bc sc bu hq f cn R hw hl
  obtain ⟨hst, C0, E, N, hX, hbl, hbA, hAs, hr, hlocks, hml, hL, hn0, hn1, hLX⟩ := id F
  have C := zX_d0 d0 C0
  have hx := C.1
  have hb := C.2.1
  refine lv_iload hx hb dL_law_23 (lv_at hl 0 rfl) ?_
  refine lv_aload_n hx hb dL_law_25 rfl (lv_at hl 4 rfl) ?_
  refine lw_slen F hw dL_law_26 ?_
  refine lv_iconst (v := 4) hx hb dL_law_27 (by decide) ?_
  refine lv_isub hx hb dL_law_28 ?_
  refine lv_icmp_gt (tgt := 1357) hx hb dL_law_29 (by decide) (fun _ => ?_) (fun z => ?_)
  · refine lv_iconst (v := 1) hx hb dL_law_1357 (by decide) ?_
    refine va_forget (fun q hq => hAs _ (hw.2.2.2.2 q hq)) ?_
    refine W.widen (k := 601024) (n := 7293034) (by omega) (by omega) ?_
    exact lw_ret hd0 hx hb hr hlocks dL_law_1358
  · have h : 4 * n + 4 ≤ LX := by
      have h0 : ¬ LX < 4 * n + 4 := fun q => z ((lw_sub4 hLX hn).mpr q)
      omega
    exact K h d0 hd0 H locs ls m bc sc bu hq f cn R hw hl
set_option maxHeartbeats 4000000 in
set_option maxRecDepth 100000 in
theorem lw_next {p : Program} {l : Launch} {e : Env} {s : State} {mi : MethodId} {below : List Frame} {meth : Method} {c : Code} {b LX : Nat} {xs : Nat → Int32} {D : va_G} {cy : Nat → ClassId} {ad : ZN → Nat} {L : List ZN} (F : lwF l p s mi meth c b LX xs D cy ad L) {n : Nat} (hn : 4 * n + 4 ≤ LX) (K : lwK p l e s mi below meth c b D cy ad L (n + 1) (n + 1) 23) : lwK p l e s mi below meth c b D cy ad L (n + 1) n 1351 := by
  intro d0 hd0 H locs ls m bc sc bu hq f cn R hw hl
  obtain ⟨hst, C0, E, N, hX, hbl, hbA, hAs, hr, hlocks, hml, hL, hn0, hn1, hLX⟩ := id F
  have C := zX_d0 d0 C0
  have hx := C.1
  have hb := C.2.1
  refine lv_iinc (v := nI (4 * (n + 1))) (lv' := lwl b ad (nI (4 * (n + 1)))) hx hb dL_law_1351 hl (k := 0) rfl (by rw [show Int32.ofInt 4 = nI 4 from rfl, nI_add]; rfl) (by decide) rfl (fun ls hl => ?_)
  refine lv_goto (tgt := 23) hx hb dL_law_1354 (by decide) ?_
  exact K d0 hd0 H locs ls m bc sc bu hq f cn R hw hl
theorem lw_loop {p : Program} {l : Launch} {e : Env} {s : State} {mi : MethodId} {below : List Frame} {meth : Method} {c : Code} {b LX : Nat} {xs : Nat → Int32} {D : va_G} {cy : Nat → ClassId} {ad : ZN → Nat} {L : List ZN} (F : lwF l p s mi meth c b LX xs D cy ad L) : ∀ (j n : Nat), LX ≤ 4 * n + 4 * j → 4 * n ≤ LX → lwK p l e s mi below meth c b D cy ad L n n 23 := by
  intro j
  induction j with
  | zero =>
    intro n h1 h2
    exact lw_head F h2 (fun h => absurd h (by omega))
  | succ j ih =>
    intro n h1 h2
    exact lw_head F h2 (fun h => lw_step F h (lw_next F h (ih (n + 1) (by omega) (by omega))))
