set_option maxHeartbeats 4000000 in
set_option maxRecDepth 100000 in
theorem c_L_setInflow (l : Launch) (hst : l.stackTraces = false) (D : va_G) (cy : Nat → ClassId) (ad : ZN → Nat) (m : ZM) (sz : Nat) {L : List ZN} (hL : zL L) (h x : Int32) : Met l yL_setInflow (zwsW yL_setInflow cL_setInflow 5 (some .int) [(0, 10, 13, 13), (0, 10, 17, 15)]) ({ frames := 7, cells := 1, slots := 6, locals := 123 } : Room) (zPw D cy ad L m sz [.ref (ad (0, 0, 0)), .int h, .int x, .ref (ad (14, 0, 0))]) (zQi (fun r m1 => r = (zlr 1 2 9 (q6_setInflow m h x)).1 ∧ m1 = (zlr 1 2 9 (q6_setInflow m h x)).2) D cy ad L sz) 1 6 (zA ad L sz) := by
  refine zopenW (Qc := fun sz => zQi (fun r m1 => r = (zlr 1 2 9 (q6_setInflow m h x)).1 ∧ m1 = (zlr 1 2 9 (q6_setInflow m h x)).2) D cy ad L sz) RL (by decide +kernel) rfl (Nat.le_of_ble_eq_true rfl) ?_
  intro p e s mi below meth c ls C E9 N9 htab hr hlocks hml hl H locs hw
  obtain ⟨hx, hb, hts, hown, hK, hNw⟩ := id C
  have hl : lv_has ls 5 [(0, .ref (ad (0, 0, 0))), (1, .int h), (2, .int x), (3, .ref (ad (14, 0, 0)))] := hl
  refine lv_aload_n hx hb dL_setInflow_0 rfl (lv_at hl 3 rfl) ?_
  refine lv_iconst (v := 0) hx hb dL_setInflow_1 (by decide) ?_
  refine lv_aload_n hx hb dL_setInflow_2 rfl (lv_at hl 0 rfl) ?_
  refine lv_iload_n hx hb dL_setInflow_3 rfl (lv_at hl 1 rfl) ?_
  refine lv_iload_n hx hb dL_setInflow_4 rfl (lv_at hl 2 rfl) ?_
  refine vx_calli (zrunVx (rest := [.int 0, .ref (ad (14, 0, 0))]) C E9 hml hl.1 hw (zn0 hL) rfl rfl (c_X6_setInflow l hst D cy ad m H.size hL h x) zv_L_7 rfl rfl rfl ⟨Nat.le_of_ble_eq_true rfl, Nat.le_of_ble_eq_true rfl⟩ rfl (Nat.le_of_ble_eq_true rfl) dL_setInflow_5 ⟨Nat.le_of_ble_eq_true rfl, Nat.le_of_ble_eq_true rfl⟩) hw.2.2 (zhA hw).1 (zhA hw).2 (zhA hw).1 (fun E ce q9 u t H1 locs1 ht _ _ hB _ _ hS hce hcv hcl => ?_) (fun r u t H1 locs1 ht _ hpo hB _ _ hS => ?_)
  · skip
    obtain ⟨⟨kx, hk0, rfl, hQ⟩, hB⟩ := hB
    have hw := zback C hw ht hB hS
    rcases q6_setInflow_k hQ hk0 with rfl | rfl
    · skip
      refine vx_catch (own := RL) (name := "java/lang/IndexOutOfBoundsException") hown [] ⟨0, 10, 13, 13⟩ [⟨0, 10, 17, 15⟩] htab (fun z hz => absurd hz List.not_mem_nil) (by decide) (by decide) (hts _ (zr_5 _ (List.mem_of_getElem? (i := 10) rfl))) (va_Nw.use rfl (E9.2.2.2.1 1 (by decide))) hce hcv hcl ?_
      refine lv_astore (lv' := [(4, .ref q9), (0, .ref (ad (0, 0, 0))), (1, .int h), (2, .int x), (3, .ref (ad (14, 0, 0)))]) hx hb dL_setInflow_13 hl (by decide) rfl (fun ls hl => ?_)
      refine lv_iconst (v := 1) hx hb dL_setInflow_15 (by decide) ?_
      refine W.widen (k := 1) (n := 6) (by omega) (by omega) ?_
      exact zret_i C hr hlocks hw dL_setInflow_16 (by rw [hQ]; exact ⟨rfl, rfl⟩)
    · skip
      refine vx_catch (own := RL) (name := "java/lang/IllegalArgumentException") hown [⟨0, 10, 13, 13⟩] ⟨0, 10, 17, 15⟩ [] htab (fun z hz => by
        obtain rfl := List.mem_singleton.mp hz
        exact Or.inr ⟨by decide, _, hts _ (zr_5 _ (List.mem_of_getElem? (i := 10) rfl)), N9.1⟩) (by decide) (by decide) (hts _ (zr_5 _ (List.mem_of_getElem? (i := 11) rfl))) (va_Nw.use rfl (E9.2.2.2.1 2 (by decide))) hce hcv hcl ?_
      refine lv_astore (lv' := [(4, .ref q9), (0, .ref (ad (0, 0, 0))), (1, .int h), (2, .int x), (3, .ref (ad (14, 0, 0)))]) hx hb dL_setInflow_17 hl (by decide) rfl (fun ls hl => ?_)
      refine lv_iconst (v := 2) hx hb dL_setInflow_19 (by decide) ?_
      refine W.widen (k := 1) (n := 6) (by omega) (by omega) ?_
      exact zret_i C hr hlocks hw dL_setInflow_20 (by rw [hQ]; exact ⟨rfl, rfl⟩)
  have hw := zback C hw ht hB hS
  refine lv_i2l hx hb dL_setInflow_8 rfl ?_
  refine zlast C hw (zn14 hL) dL_setInflow_9 (fun H locs m1 em1 hw => ?_)
  refine lv_goto (tgt := 21) hx hb dL_setInflow_10 (by decide) ?_
  refine lv_iconst (v := 0) hx hb dL_setInflow_21 (by decide) ?_
  refine W.widen (k := 1) (n := 6) (by omega) (by omega) ?_
  exact zret_i C hr hlocks hw dL_setInflow_22 (by rw [hpo]; exact ⟨rfl, em1⟩)
theorem zv_L_77 : zGSW RL 77 yL_setInflow cL_setInflow 5 (some .int) [(0, 10, 13, 13), (0, 10, 17, 15)] 4 := ⟨zgsw (zr_5 _ (List.mem_of_getElem? (i := 6) rfl)) (zr_5 _ (List.mem_of_getElem? (i := 7) rfl)) (zr_5 _ (List.mem_of_getElem? (i := 8) rfl)) (zr_5 _ (List.mem_of_getElem? (i := 9) rfl)), by decide +kernel⟩

set_option maxHeartbeats 4000000 in
set_option maxRecDepth 100000 in
theorem c_L_setSluice (l : Launch) (hst : l.stackTraces = false) (D : va_G) (cy : Nat → ClassId) (ad : ZN → Nat) (m : ZM) (sz : Nat) {L : List ZN} (hL : zL L) (x : Int32) : Met l yL_setSluice (zwsW yL_setSluice cL_setSluice 4 (some .int) [(0, 9, 12, 15)]) ({ frames := 7, cells := 1, slots := 6, locals := 122 } : Room) (zPw D cy ad L m sz [.ref (ad (0, 0, 0)), .int x, .ref (ad (14, 0, 0))]) (zQi (fun r m1 => r = (zlr 2 9 9 (q6_setSluice m x)).1 ∧ m1 = (zlr 2 9 9 (q6_setSluice m x)).2) D cy ad L sz) 1 6 (zA ad L sz) := by
  refine zopenW (Qc := fun sz => zQi (fun r m1 => r = (zlr 2 9 9 (q6_setSluice m x)).1 ∧ m1 = (zlr 2 9 9 (q6_setSluice m x)).2) D cy ad L sz) RL (by decide +kernel) rfl (Nat.le_of_ble_eq_true rfl) ?_
  intro p e s mi below meth c ls C E9 N9 htab hr hlocks hml hl H locs hw
  obtain ⟨hx, hb, hts, hown, hK, hNw⟩ := id C
  have hl : lv_has ls 4 [(0, .ref (ad (0, 0, 0))), (1, .int x), (2, .ref (ad (14, 0, 0)))] := hl
  refine lv_aload_n hx hb dL_setSluice_0 rfl (lv_at hl 2 rfl) ?_
  refine lv_iconst (v := 0) hx hb dL_setSluice_1 (by decide) ?_
  refine lv_aload_n hx hb dL_setSluice_2 rfl (lv_at hl 0 rfl) ?_
  refine lv_iload_n hx hb dL_setSluice_3 rfl (lv_at hl 1 rfl) ?_
  refine vx_calli (zrunVx (rest := [.int 0, .ref (ad (14, 0, 0))]) C E9 hml hl.1 hw (zn0 hL) rfl rfl (c_X6_setSluice l hst D cy ad m H.size hL x) zv_L_17 rfl rfl rfl ⟨Nat.le_of_ble_eq_true rfl, Nat.le_of_ble_eq_true rfl⟩ rfl (Nat.le_of_ble_eq_true rfl) dL_setSluice_4 ⟨Nat.le_of_ble_eq_true rfl, Nat.le_of_ble_eq_true rfl⟩) hw.2.2 (zhA hw).1 (zhA hw).2 (zhA hw).1 (fun E ce q9 u t H1 locs1 ht _ _ hB _ _ hS hce hcv hcl => ?_) (fun r u t H1 locs1 ht _ hpo hB _ _ hS => ?_)
  · skip
    obtain ⟨⟨kx, hk0, rfl, hQ⟩, hB⟩ := hB
    have hw := zback C hw ht hB hS
    rcases q6_setSluice_k hQ hk0 with rfl
    · skip
      refine vx_catch (own := RL) (name := "java/lang/IllegalArgumentException") hown [] ⟨0, 9, 12, 15⟩ [] htab (fun z hz => absurd hz List.not_mem_nil) (by decide) (by decide) (hts _ (zr_5 _ (List.mem_of_getElem? (i := 11) rfl))) (va_Nw.use rfl (E9.2.2.2.1 2 (by decide))) hce hcv hcl ?_
      refine lv_astore_n (lv' := [(3, .ref q9), (0, .ref (ad (0, 0, 0))), (1, .int x), (2, .ref (ad (14, 0, 0)))]) hx hb dL_setSluice_12 rfl hl (by decide) rfl (fun ls hl => ?_)
      refine lv_iconst (v := 1) hx hb dL_setSluice_13 (by decide) ?_
      refine W.widen (k := 1) (n := 6) (by omega) (by omega) ?_
      exact zret_i C hr hlocks hw dL_setSluice_14 (by rw [hQ]; exact ⟨rfl, rfl⟩)
  have hw := zback C hw ht hB hS
  refine lv_i2l hx hb dL_setSluice_7 rfl ?_
  refine zlast C hw (zn14 hL) dL_setSluice_8 (fun H locs m1 em1 hw => ?_)
  refine lv_goto (tgt := 15) hx hb dL_setSluice_9 (by decide) ?_
  refine lv_iconst (v := 0) hx hb dL_setSluice_15 (by decide) ?_
  refine W.widen (k := 1) (n := 6) (by omega) (by omega) ?_
  exact zret_i C hr hlocks hw dL_setSluice_16 (by rw [hpo]; exact ⟨rfl, em1⟩)
theorem zv_L_86 : zGSW RL 86 yL_setSluice cL_setSluice 4 (some .int) [(0, 9, 12, 15)] 3 := ⟨zgsw (zr_6 _ (List.mem_of_getElem? (i := 13) rfl)) (zr_6 _ (List.mem_of_getElem? (i := 14) rfl)) (zr_5 _ (List.mem_of_getElem? (i := 8) rfl)) (zr_6 _ (List.mem_of_getElem? (i := 15) rfl)), by decide +kernel⟩

set_option maxHeartbeats 4000000 in
set_option maxRecDepth 100000 in
theorem c_L_addBox (l : Launch) (hst : l.stackTraces = false) (D : va_G) (cy : Nat → ClassId) (ad : ZN → Nat) (m : ZM) (sz : Nat) {L : List ZN} (hL : zL L) {bc : Nat} (hbc : m (1, 0, 0) 9 = nI bc) (lbc : bc ≤ 4) : Met l yL_addBox (zwsW yL_addBox cL_addBox 3 (some .int) [(0, 8, 11, 25)]) ({ frames := 7, cells := 1, slots := 6, locals := 120 } : Room) (zPw D cy ad L m sz [.ref (ad (0, 0, 0)), .ref (ad (14, 0, 0))]) (zQi (fun r m1 => r = (zlr 3 9 9 (q6_addBox m bc)).1 ∧ m1 = (zlr 3 9 9 (q6_addBox m bc)).2) D cy ad L sz) 1 6 (zA ad L sz) := by
  refine zopenW (Qc := fun sz => zQi (fun r m1 => r = (zlr 3 9 9 (q6_addBox m bc)).1 ∧ m1 = (zlr 3 9 9 (q6_addBox m bc)).2) D cy ad L sz) RL (by decide +kernel) rfl (Nat.le_of_ble_eq_true rfl) ?_
  intro p e s mi below meth c ls C E9 N9 htab hr hlocks hml hl H locs hw
  obtain ⟨hx, hb, hts, hown, hK, hNw⟩ := id C
  have hl : lv_has ls 3 [(0, .ref (ad (0, 0, 0))), (1, .ref (ad (14, 0, 0)))] := hl
  refine lv_aload_n hx hb dL_addBox_0 rfl (lv_at hl 1 rfl) ?_
  refine lv_iconst (v := 0) hx hb dL_addBox_1 (by decide) ?_
  refine lv_aload_n hx hb dL_addBox_2 rfl (lv_at hl 0 rfl) ?_
  refine vx_calli (zrunVx (rest := [.int 0, .ref (ad (14, 0, 0))]) C E9 hml hl.1 hw (zn0 hL) rfl rfl (c_X6_addBox l hst D cy ad m H.size hL hbc lbc) zv_L_21 rfl rfl rfl ⟨Nat.le_of_ble_eq_true rfl, Nat.le_of_ble_eq_true rfl⟩ rfl (Nat.le_of_ble_eq_true rfl) dL_addBox_3 ⟨Nat.le_of_ble_eq_true rfl, Nat.le_of_ble_eq_true rfl⟩) hw.2.2 (zhA hw).1 (zhA hw).2 (zhA hw).1 (fun E ce q9 u t H1 locs1 ht _ _ hB _ _ hS hce hcv hcl => ?_) (fun r u t H1 locs1 ht _ hpo hB _ _ hS => ?_)
  · skip
    obtain ⟨⟨kx, hk0, rfl, hQ⟩, hB⟩ := hB
    have hw := zback C hw ht hB hS
    rcases q6_addBox_k hQ hk0 with rfl
    · skip
      refine vx_catch (own := RL) (name := "java/lang/IllegalStateException") hown [] ⟨0, 8, 11, 25⟩ [] htab (fun z hz => absurd hz List.not_mem_nil) (by decide) (by decide) (hts _ (zr_7 _ (List.mem_of_getElem? (i := 4) rfl))) (va_Nw.use rfl (E9.2.2.2.1 3 (by decide))) hce hcv hcl ?_
      refine lv_astore_n (lv' := [(2, .ref q9), (0, .ref (ad (0, 0, 0))), (1, .ref (ad (14, 0, 0)))]) hx hb dL_addBox_11 rfl hl (by decide) rfl (fun ls hl => ?_)
      refine lv_iconst (v := 1) hx hb dL_addBox_12 (by decide) ?_
      refine W.widen (k := 1) (n := 6) (by omega) (by omega) ?_
      exact zret_i C hr hlocks hw dL_addBox_13 (by rw [hQ]; exact ⟨rfl, rfl⟩)
  have hw := zback C hw ht hB hS
  refine lv_i2l hx hb dL_addBox_6 rfl ?_
  refine zlast C hw (zn14 hL) dL_addBox_7 (fun H locs m1 em1 hw => ?_)
  refine lv_goto (tgt := 14) hx hb dL_addBox_8 (by decide) ?_
  refine lv_iconst (v := 0) hx hb dL_addBox_14 (by decide) ?_
  refine W.widen (k := 1) (n := 6) (by omega) (by omega) ?_
  exact zret_i C hr hlocks hw dL_addBox_15 (by rw [hpo]; exact ⟨rfl, em1⟩)
theorem zv_L_90 : zGSW RL 90 yL_addBox cL_addBox 3 (some .int) [(0, 8, 11, 25)] 2 := ⟨zgsw (zr_7 _ (List.mem_of_getElem? (i := 1) rfl)) (zr_7 _ (List.mem_of_getElem? (i := 2) rfl)) (zr_5 _ (List.mem_of_getElem? (i := 8) rfl)) (zr_7 _ (List.mem_of_getElem? (i := 3) rfl)), by decide +kernel⟩

set_option maxHeartbeats 4000000 in
set_option maxRecDepth 100000 in
theorem c_L_hang (l : Launch) (hst : l.stackTraces = false) (D : va_G) (cy : Nat → ClassId) (ad : ZN → Nat) (m : ZM) (sz : Nat) {L : List ZN} (hL : zL L) {bc : Nat} {sc bu : Nat → Nat} {hq : Nat} (G : gW m 0 bc sc bu hq) (b x y : Int32) : Met l yL_hang (zwsW yL_hang cL_hang 6 (some .int) [(0, 12, 15, 13), (0, 12, 19, 15), (0, 12, 23, 25)]) ({ frames := 8, cells := 2, slots := 12, locals := 145 } : Room) (zPw D cy ad L m sz [.ref (ad (0, 0, 0)), .int b, .int x, .int y, .ref (ad (14, 0, 0))]) (zQi (fun r m1 => r = (zlr 1 2 3 (q6_hang m bc sc b x y)).1 ∧ m1 = (zlr 1 2 3 (q6_hang m bc sc b x y)).2) D cy ad L sz) 2 12 (zA ad L sz) := by
  refine zopenW (Qc := fun sz => zQi (fun r m1 => r = (zlr 1 2 3 (q6_hang m bc sc b x y)).1 ∧ m1 = (zlr 1 2 3 (q6_hang m bc sc b x y)).2) D cy ad L sz) RL (by decide +kernel) rfl (Nat.le_of_ble_eq_true rfl) ?_
  intro p e s mi below meth c ls C E9 N9 htab hr hlocks hml hl H locs hw
  obtain ⟨hx, hb, hts, hown, hK, hNw⟩ := id C
  have hl : lv_has ls 6 [(0, .ref (ad (0, 0, 0))), (1, .int b), (2, .int x), (3, .int y), (4, .ref (ad (14, 0, 0)))] := hl
  refine lv_aload hx hb dL_hang_0 (lv_at hl 4 rfl) ?_
  refine lv_iconst (v := 0) hx hb dL_hang_2 (by decide) ?_
  refine lv_aload_n hx hb dL_hang_3 rfl (lv_at hl 0 rfl) ?_
  refine lv_iload_n hx hb dL_hang_4 rfl (lv_at hl 1 rfl) ?_
  refine lv_iload_n hx hb dL_hang_5 rfl (lv_at hl 2 rfl) ?_
  refine lv_iload_n hx hb dL_hang_6 rfl (lv_at hl 3 rfl) ?_
  refine vx_calli (zrunVx (rest := [.int 0, .ref (ad (14, 0, 0))]) C E9 hml hl.1 hw (zn0 hL) rfl rfl (c_X6_hang l hst D cy ad m H.size hL G b x y) zv_L_27 rfl rfl rfl ⟨Nat.le_of_ble_eq_true rfl, Nat.le_of_ble_eq_true rfl⟩ rfl (Nat.le_of_ble_eq_true rfl) dL_hang_7 ⟨Nat.le_of_ble_eq_true rfl, Nat.le_of_ble_eq_true rfl⟩) hw.2.2 (zhA hw).1 (zhA hw).2 (zhA hw).1 (fun E ce q9 u t H1 locs1 ht _ _ hB _ _ hS hce hcv hcl => ?_) (fun r u t H1 locs1 ht _ hpo hB _ _ hS => ?_)
  · skip
    obtain ⟨⟨kx, hk0, rfl, hQ⟩, hB⟩ := hB
    have hw := zback C hw ht hB hS
    rcases q6_hang_k hQ hk0 with rfl | rfl | rfl
    · skip
      refine vx_catch (own := RL) (name := "java/lang/IndexOutOfBoundsException") hown [] ⟨0, 12, 15, 13⟩ [⟨0, 12, 19, 15⟩, ⟨0, 12, 23, 25⟩] htab (fun z hz => absurd hz List.not_mem_nil) (by decide) (by decide) (hts _ (zr_5 _ (List.mem_of_getElem? (i := 10) rfl))) (va_Nw.use rfl (E9.2.2.2.1 1 (by decide))) hce hcv hcl ?_
      refine lv_astore (lv' := [(5, .ref q9), (0, .ref (ad (0, 0, 0))), (1, .int b), (2, .int x), (3, .int y), (4, .ref (ad (14, 0, 0)))]) hx hb dL_hang_15 hl (by decide) rfl (fun ls hl => ?_)
      refine lv_iconst (v := 1) hx hb dL_hang_17 (by decide) ?_
      refine W.widen (k := 2) (n := 12) (by omega) (by omega) ?_
      exact zret_i C hr hlocks hw dL_hang_18 (by rw [hQ]; exact ⟨rfl, rfl⟩)
    · skip
      refine vx_catch (own := RL) (name := "java/lang/IllegalArgumentException") hown [⟨0, 12, 15, 13⟩] ⟨0, 12, 19, 15⟩ [⟨0, 12, 23, 25⟩] htab (fun z hz => by
        obtain rfl := List.mem_singleton.mp hz
        exact Or.inr ⟨by decide, _, hts _ (zr_5 _ (List.mem_of_getElem? (i := 10) rfl)), N9.1⟩) (by decide) (by decide) (hts _ (zr_5 _ (List.mem_of_getElem? (i := 11) rfl))) (va_Nw.use rfl (E9.2.2.2.1 2 (by decide))) hce hcv hcl ?_
      refine lv_astore (lv' := [(5, .ref q9), (0, .ref (ad (0, 0, 0))), (1, .int b), (2, .int x), (3, .int y), (4, .ref (ad (14, 0, 0)))]) hx hb dL_hang_19 hl (by decide) rfl (fun ls hl => ?_)
      refine lv_iconst (v := 2) hx hb dL_hang_21 (by decide) ?_
      refine W.widen (k := 2) (n := 12) (by omega) (by omega) ?_
      exact zret_i C hr hlocks hw dL_hang_22 (by rw [hQ]; exact ⟨rfl, rfl⟩)
    · skip
      refine vx_catch (own := RL) (name := "java/lang/IllegalStateException") hown [⟨0, 12, 15, 13⟩, ⟨0, 12, 19, 15⟩] ⟨0, 12, 23, 25⟩ [] htab (fun z hz => by
        rcases List.mem_cons.mp hz with rfl | hz
        · exact Or.inr ⟨by decide, _, hts _ (zr_5 _ (List.mem_of_getElem? (i := 10) rfl)), N9.2.1⟩
        obtain rfl := List.mem_singleton.mp hz
        exact Or.inr ⟨by decide, _, hts _ (zr_5 _ (List.mem_of_getElem? (i := 11) rfl)), N9.2.2.1⟩) (by decide) (by decide) (hts _ (zr_7 _ (List.mem_of_getElem? (i := 4) rfl))) (va_Nw.use rfl (E9.2.2.2.1 3 (by decide))) hce hcv hcl ?_
      refine lv_astore (lv' := [(5, .ref q9), (0, .ref (ad (0, 0, 0))), (1, .int b), (2, .int x), (3, .int y), (4, .ref (ad (14, 0, 0)))]) hx hb dL_hang_23 hl (by decide) rfl (fun ls hl => ?_)
      refine lv_iconst (v := 3) hx hb dL_hang_25 (by decide) ?_
      refine W.widen (k := 2) (n := 12) (by omega) (by omega) ?_
      exact zret_i C hr hlocks hw dL_hang_26 (by rw [hQ]; exact ⟨rfl, rfl⟩)
  have hw := zback C hw ht hB hS
  refine lv_i2l hx hb dL_hang_10 rfl ?_
  refine zlast C hw (zn14 hL) dL_hang_11 (fun H locs m1 em1 hw => ?_)
  refine lv_goto (tgt := 27) hx hb dL_hang_12 (by decide) ?_
  refine lv_iconst (v := 0) hx hb dL_hang_27 (by decide) ?_
  refine W.widen (k := 2) (n := 12) (by omega) (by omega) ?_
  exact zret_i C hr hlocks hw dL_hang_28 (by rw [hpo]; exact ⟨rfl, em1⟩)
theorem zv_L_94 : zGSW RL 94 yL_hang cL_hang 6 (some .int) [(0, 12, 15, 13), (0, 12, 19, 15), (0, 12, 23, 25)] 5 := ⟨zgsw (zr_7 _ (List.mem_of_getElem? (i := 16) rfl)) (zr_7 _ (List.mem_of_getElem? (i := 17) rfl)) (zr_5 _ (List.mem_of_getElem? (i := 8) rfl)) (zr_7 _ (List.mem_of_getElem? (i := 18) rfl)), by decide +kernel⟩

set_option maxHeartbeats 4000000 in
set_option maxRecDepth 100000 in
theorem c_L_shoe (l : Launch) (hst : l.stackTraces = false) (D : va_G) (cy : Nat → ClassId) (ad : ZN → Nat) (m : ZM) (sz : Nat) {L : List ZN} (hL : zL L) {bc : Nat} {sc bu : Nat → Nat} {hq : Nat} (G : gW m 0 bc sc bu hq) (b k : Int32) : Met l yL_shoe (zwsW yL_shoe cL_shoe 5 (some .int) [(0, 10, 13, 13)]) ({ frames := 8, cells := 2, slots := 12, locals := 145 } : Room) (zPw D cy ad L m sz [.ref (ad (0, 0, 0)), .int b, .int k, .ref (ad (14, 0, 0))]) (zQi (fun r m1 => r = (zlr 1 9 9 (q6_shoe m bc sc b k)).1 ∧ m1 = (zlr 1 9 9 (q6_shoe m bc sc b k)).2) D cy ad L sz) 2 12 (zA ad L sz) := by
  refine zopenW (Qc := fun sz => zQi (fun r m1 => r = (zlr 1 9 9 (q6_shoe m bc sc b k)).1 ∧ m1 = (zlr 1 9 9 (q6_shoe m bc sc b k)).2) D cy ad L sz) RL (by decide +kernel) rfl (Nat.le_of_ble_eq_true rfl) ?_
  intro p e s mi below meth c ls C E9 N9 htab hr hlocks hml hl H locs hw
  obtain ⟨hx, hb, hts, hown, hK, hNw⟩ := id C
  have hl : lv_has ls 5 [(0, .ref (ad (0, 0, 0))), (1, .int b), (2, .int k), (3, .ref (ad (14, 0, 0)))] := hl
  refine lv_aload_n hx hb dL_shoe_0 rfl (lv_at hl 3 rfl) ?_
  refine lv_iconst (v := 0) hx hb dL_shoe_1 (by decide) ?_
  refine lv_aload_n hx hb dL_shoe_2 rfl (lv_at hl 0 rfl) ?_
  refine lv_iload_n hx hb dL_shoe_3 rfl (lv_at hl 1 rfl) ?_
  refine lv_iload_n hx hb dL_shoe_4 rfl (lv_at hl 2 rfl) ?_
  refine vx_calli (zrunVx (rest := [.int 0, .ref (ad (14, 0, 0))]) C E9 hml hl.1 hw (zn0 hL) rfl rfl (c_X6_shoe l hst D cy ad m H.size hL G b k) zv_L_31 rfl rfl rfl ⟨Nat.le_of_ble_eq_true rfl, Nat.le_of_ble_eq_true rfl⟩ rfl (Nat.le_of_ble_eq_true rfl) dL_shoe_5 ⟨Nat.le_of_ble_eq_true rfl, Nat.le_of_ble_eq_true rfl⟩) hw.2.2 (zhA hw).1 (zhA hw).2 (zhA hw).1 (fun E ce q9 u t H1 locs1 ht _ _ hB _ _ hS hce hcv hcl => ?_) (fun r u t H1 locs1 ht _ hpo hB _ _ hS => ?_)
  · skip
    obtain ⟨⟨kx, hk0, rfl, hQ⟩, hB⟩ := hB
    have hw := zback C hw ht hB hS
    rcases q6_shoe_k hQ hk0 with rfl
    · skip
      refine vx_catch (own := RL) (name := "java/lang/IndexOutOfBoundsException") hown [] ⟨0, 10, 13, 13⟩ [] htab (fun z hz => absurd hz List.not_mem_nil) (by decide) (by decide) (hts _ (zr_5 _ (List.mem_of_getElem? (i := 10) rfl))) (va_Nw.use rfl (E9.2.2.2.1 1 (by decide))) hce hcv hcl ?_
      refine lv_astore (lv' := [(4, .ref q9), (0, .ref (ad (0, 0, 0))), (1, .int b), (2, .int k), (3, .ref (ad (14, 0, 0)))]) hx hb dL_shoe_13 hl (by decide) rfl (fun ls hl => ?_)
      refine lv_iconst (v := 1) hx hb dL_shoe_15 (by decide) ?_
      refine W.widen (k := 2) (n := 12) (by omega) (by omega) ?_
      exact zret_i C hr hlocks hw dL_shoe_16 (by rw [hQ]; exact ⟨rfl, rfl⟩)
  have hw := zback C hw ht hB hS
  refine lv_i2l hx hb dL_shoe_8 rfl ?_
  refine zlast C hw (zn14 hL) dL_shoe_9 (fun H locs m1 em1 hw => ?_)
  refine lv_goto (tgt := 17) hx hb dL_shoe_10 (by decide) ?_
  refine lv_iconst (v := 0) hx hb dL_shoe_17 (by decide) ?_
  refine W.widen (k := 2) (n := 12) (by omega) (by omega) ?_
  exact zret_i C hr hlocks hw dL_shoe_18 (by rw [hpo]; exact ⟨rfl, em1⟩)
theorem zv_L_98 : zGSW RL 98 yL_shoe cL_shoe 5 (some .int) [(0, 10, 13, 13)] 4 := ⟨zgsw (zr_8 _ (List.mem_of_getElem? (i := 20) rfl)) (zr_8 _ (List.mem_of_getElem? (i := 21) rfl)) (zr_5 _ (List.mem_of_getElem? (i := 8) rfl)) (zr_8 _ (List.mem_of_getElem? (i := 22) rfl)), by decide +kernel⟩

set_option maxHeartbeats 4000000 in
set_option maxRecDepth 100000 in
theorem c_L_setBox (l : Launch) (hst : l.stackTraces = false) (D : va_G) (cy : Nat → ClassId) (ad : ZN → Nat) (m : ZM) (sz : Nat) {L : List ZN} (hL : zL L) {bc : Nat} {sc bu : Nat → Nat} {hq : Nat} (G : gW m 0 bc sc bu hq) (b x y : Int32) : Met l yL_setBox (zwsW yL_setBox cL_setBox 6 (some .int) [(0, 12, 15, 13), (0, 12, 19, 15)]) ({ frames := 8, cells := 2, slots := 12, locals := 146 } : Room) (zPw D cy ad L m sz [.ref (ad (0, 0, 0)), .int b, .int x, .int y, .ref (ad (14, 0, 0))]) (zQi (fun r m1 => r = (zlr 1 2 9 (q6_setBox m bc b x y)).1 ∧ m1 = (zlr 1 2 9 (q6_setBox m bc b x y)).2) D cy ad L sz) 2 12 (zA ad L sz) := by
  refine zopenW (Qc := fun sz => zQi (fun r m1 => r = (zlr 1 2 9 (q6_setBox m bc b x y)).1 ∧ m1 = (zlr 1 2 9 (q6_setBox m bc b x y)).2) D cy ad L sz) RL (by decide +kernel) rfl (Nat.le_of_ble_eq_true rfl) ?_
  intro p e s mi below meth c ls C E9 N9 htab hr hlocks hml hl H locs hw
  obtain ⟨hx, hb, hts, hown, hK, hNw⟩ := id C
  have hl : lv_has ls 6 [(0, .ref (ad (0, 0, 0))), (1, .int b), (2, .int x), (3, .int y), (4, .ref (ad (14, 0, 0)))] := hl
  refine lv_aload hx hb dL_setBox_0 (lv_at hl 4 rfl) ?_
  refine lv_iconst (v := 0) hx hb dL_setBox_2 (by decide) ?_
  refine lv_aload_n hx hb dL_setBox_3 rfl (lv_at hl 0 rfl) ?_
  refine lv_iload_n hx hb dL_setBox_4 rfl (lv_at hl 1 rfl) ?_
  refine lv_iload_n hx hb dL_setBox_5 rfl (lv_at hl 2 rfl) ?_
  refine lv_iload_n hx hb dL_setBox_6 rfl (lv_at hl 3 rfl) ?_
  refine vx_calli (zrunVx (rest := [.int 0, .ref (ad (14, 0, 0))]) C E9 hml hl.1 hw (zn0 hL) rfl rfl (c_X6_setBox l hst D cy ad m H.size hL G b x y) zv_L_34 rfl rfl rfl ⟨Nat.le_of_ble_eq_true rfl, Nat.le_of_ble_eq_true rfl⟩ rfl (Nat.le_of_ble_eq_true rfl) dL_setBox_7 ⟨Nat.le_of_ble_eq_true rfl, Nat.le_of_ble_eq_true rfl⟩) hw.2.2 (zhA hw).1 (zhA hw).2 (zhA hw).1 (fun E ce q9 u t H1 locs1 ht _ _ hB _ _ hS hce hcv hcl => ?_) (fun r u t H1 locs1 ht _ hpo hB _ _ hS => ?_)
  · skip
    obtain ⟨⟨kx, hk0, rfl, hQ⟩, hB⟩ := hB
    have hw := zback C hw ht hB hS
    rcases q6_setBox_k hQ hk0 with rfl | rfl
    · skip
      refine vx_catch (own := RL) (name := "java/lang/IndexOutOfBoundsException") hown [] ⟨0, 12, 15, 13⟩ [⟨0, 12, 19, 15⟩] htab (fun z hz => absurd hz List.not_mem_nil) (by decide) (by decide) (hts _ (zr_5 _ (List.mem_of_getElem? (i := 10) rfl))) (va_Nw.use rfl (E9.2.2.2.1 1 (by decide))) hce hcv hcl ?_
      refine lv_astore (lv' := [(5, .ref q9), (0, .ref (ad (0, 0, 0))), (1, .int b), (2, .int x), (3, .int y), (4, .ref (ad (14, 0, 0)))]) hx hb dL_setBox_15 hl (by decide) rfl (fun ls hl => ?_)
      refine lv_iconst (v := 1) hx hb dL_setBox_17 (by decide) ?_
      refine W.widen (k := 2) (n := 12) (by omega) (by omega) ?_
      exact zret_i C hr hlocks hw dL_setBox_18 (by rw [hQ]; exact ⟨rfl, rfl⟩)
    · skip
      refine vx_catch (own := RL) (name := "java/lang/IllegalArgumentException") hown [⟨0, 12, 15, 13⟩] ⟨0, 12, 19, 15⟩ [] htab (fun z hz => by
        obtain rfl := List.mem_singleton.mp hz
        exact Or.inr ⟨by decide, _, hts _ (zr_5 _ (List.mem_of_getElem? (i := 10) rfl)), N9.1⟩) (by decide) (by decide) (hts _ (zr_5 _ (List.mem_of_getElem? (i := 11) rfl))) (va_Nw.use rfl (E9.2.2.2.1 2 (by decide))) hce hcv hcl ?_
      refine lv_astore (lv' := [(5, .ref q9), (0, .ref (ad (0, 0, 0))), (1, .int b), (2, .int x), (3, .int y), (4, .ref (ad (14, 0, 0)))]) hx hb dL_setBox_19 hl (by decide) rfl (fun ls hl => ?_)
      refine lv_iconst (v := 2) hx hb dL_setBox_21 (by decide) ?_
      refine W.widen (k := 2) (n := 12) (by omega) (by omega) ?_
      exact zret_i C hr hlocks hw dL_setBox_22 (by rw [hQ]; exact ⟨rfl, rfl⟩)
  have hw := zback C hw ht hB hS
  refine lv_i2l hx hb dL_setBox_10 rfl ?_
  refine zlast C hw (zn14 hL) dL_setBox_11 (fun H locs m1 em1 hw => ?_)
  refine lv_goto (tgt := 23) hx hb dL_setBox_12 (by decide) ?_
  refine lv_iconst (v := 0) hx hb dL_setBox_23 (by decide) ?_
  refine W.widen (k := 2) (n := 12) (by omega) (by omega) ?_
  exact zret_i C hr hlocks hw dL_setBox_24 (by rw [hpo]; exact ⟨rfl, em1⟩)
theorem zv_L_101 : zGSW RL 101 yL_setBox cL_setBox 6 (some .int) [(0, 12, 15, 13), (0, 12, 19, 15)] 5 := ⟨zgsw (zr_9 _ (List.mem_of_getElem? (i := 9) rfl)) (zr_9 _ (List.mem_of_getElem? (i := 10) rfl)) (zr_5 _ (List.mem_of_getElem? (i := 8) rfl)) (zr_9 _ (List.mem_of_getElem? (i := 11) rfl)), by decide +kernel⟩

set_option maxHeartbeats 4000000 in
set_option maxRecDepth 100000 in
theorem c_L_box (l : Launch) (hst : l.stackTraces = false) (D : va_G) (cy : Nat → ClassId) (ad : ZN → Nat) (m : ZM) (sz : Nat) {L : List ZN} (hL : zL L) {bc : Nat} {sc bu : Nat → Nat} {hq : Nat} (G : gW m 0 bc sc bu hq) (b k : Int32) : Met l yL_box (zwsW yL_box cL_box 5 (some .int) [(0, 10, 13, 13)]) ({ frames := 8, cells := 2, slots := 12, locals := 144 } : Room) (zPw D cy ad L m sz [.ref (ad (0, 0, 0)), .int b, .int k, .ref (ad (14, 0, 0))]) (zQi (fun r m1 => r = (zlr 1 9 9 (q6_box m bc sc b k)).1 ∧ m1 = (zlr 1 9 9 (q6_box m bc sc b k)).2) D cy ad L sz) 2 12 (zA ad L sz) := by
  refine zopenW (Qc := fun sz => zQi (fun r m1 => r = (zlr 1 9 9 (q6_box m bc sc b k)).1 ∧ m1 = (zlr 1 9 9 (q6_box m bc sc b k)).2) D cy ad L sz) RL (by decide +kernel) rfl (Nat.le_of_ble_eq_true rfl) ?_
  intro p e s mi below meth c ls C E9 N9 htab hr hlocks hml hl H locs hw
  obtain ⟨hx, hb, hts, hown, hK, hNw⟩ := id C
  have hl : lv_has ls 5 [(0, .ref (ad (0, 0, 0))), (1, .int b), (2, .int k), (3, .ref (ad (14, 0, 0)))] := hl
  refine lv_aload_n hx hb dL_box_0 rfl (lv_at hl 3 rfl) ?_
  refine lv_iconst (v := 0) hx hb dL_box_1 (by decide) ?_
  refine lv_aload_n hx hb dL_box_2 rfl (lv_at hl 0 rfl) ?_
  refine lv_iload_n hx hb dL_box_3 rfl (lv_at hl 1 rfl) ?_
  refine lv_iload_n hx hb dL_box_4 rfl (lv_at hl 2 rfl) ?_
  refine vx_calli (zrunVx (rest := [.int 0, .ref (ad (14, 0, 0))]) C E9 hml hl.1 hw (zn0 hL) rfl rfl (c_X6_box l hst D cy ad m H.size hL G b k) zv_L_37 rfl rfl rfl ⟨Nat.le_of_ble_eq_true rfl, Nat.le_of_ble_eq_true rfl⟩ rfl (Nat.le_of_ble_eq_true rfl) dL_box_5 ⟨Nat.le_of_ble_eq_true rfl, Nat.le_of_ble_eq_true rfl⟩) hw.2.2 (zhA hw).1 (zhA hw).2 (zhA hw).1 (fun E ce q9 u t H1 locs1 ht _ _ hB _ _ hS hce hcv hcl => ?_) (fun r u t H1 locs1 ht _ hpo hB _ _ hS => ?_)
  · skip
    obtain ⟨⟨kx, hk0, rfl, hQ⟩, hB⟩ := hB
    have hw := zback C hw ht hB hS
    rcases q6_box_k hQ hk0 with rfl
    · skip
      refine vx_catch (own := RL) (name := "java/lang/IndexOutOfBoundsException") hown [] ⟨0, 10, 13, 13⟩ [] htab (fun z hz => absurd hz List.not_mem_nil) (by decide) (by decide) (hts _ (zr_5 _ (List.mem_of_getElem? (i := 10) rfl))) (va_Nw.use rfl (E9.2.2.2.1 1 (by decide))) hce hcv hcl ?_
      refine lv_astore (lv' := [(4, .ref q9), (0, .ref (ad (0, 0, 0))), (1, .int b), (2, .int k), (3, .ref (ad (14, 0, 0)))]) hx hb dL_box_13 hl (by decide) rfl (fun ls hl => ?_)
      refine lv_iconst (v := 1) hx hb dL_box_15 (by decide) ?_
      refine W.widen (k := 2) (n := 12) (by omega) (by omega) ?_
      exact zret_i C hr hlocks hw dL_box_16 (by rw [hQ]; exact ⟨rfl, rfl⟩)
  have hw := zback C hw ht hB hS
  refine lv_i2l hx hb dL_box_8 rfl ?_
  refine zlast C hw (zn14 hL) dL_box_9 (fun H locs m1 em1 hw => ?_)
  refine lv_goto (tgt := 17) hx hb dL_box_10 (by decide) ?_
  refine lv_iconst (v := 0) hx hb dL_box_17 (by decide) ?_
  refine W.widen (k := 2) (n := 12) (by omega) (by omega) ?_
  exact zret_i C hr hlocks hw dL_box_18 (by rw [hpo]; exact ⟨rfl, em1⟩)
theorem zv_L_104 : zGSW RL 104 yL_box cL_box 5 (some .int) [(0, 10, 13, 13)] 4 := ⟨zgsw (zr_9 _ (List.mem_of_getElem? (i := 22) rfl)) (zr_9 _ (List.mem_of_getElem? (i := 23) rfl)) (zr_5 _ (List.mem_of_getElem? (i := 8) rfl)) (zr_10 _ (List.mem_of_getElem? (i := 0) rfl)), by decide +kernel⟩

set_option maxHeartbeats 4000000 in
set_option maxRecDepth 100000 in
theorem c_L_bring (l : Launch) (hst : l.stackTraces = false) (D : va_G) (cy : Nat → ClassId) (ad : ZN → Nat) (m : ZM) (sz : Nat) {L : List ZN} (hL : zL L) {fq hn : Nat} (hfq : m (8, 0, 0) 1 = nI fq) (lfq : fq < 30) (hhn : m (8, 0, 0) 2 = nI hn) (lhn : hn ≤ 30) (x y z : Int32) : Met l yL_bring (zwsW yL_bring cL_bring 6 (some .int) [(0, 12, 15, 15), (0, 12, 19, 25)]) ({ frames := 8, cells := 2, slots := 12, locals := 144 } : Room) (zPw D cy ad L m sz [.ref (ad (0, 0, 0)), .int x, .int y, .int z, .ref (ad (14, 0, 0))]) (zQi (fun r m1 => r = (zlr 2 3 9 (q6_bring m fq hn x y z)).1 ∧ m1 = (zlr 2 3 9 (q6_bring m fq hn x y z)).2) D cy ad L sz) 2 12 (zA ad L sz) := by
  refine zopenW (Qc := fun sz => zQi (fun r m1 => r = (zlr 2 3 9 (q6_bring m fq hn x y z)).1 ∧ m1 = (zlr 2 3 9 (q6_bring m fq hn x y z)).2) D cy ad L sz) RL (by decide +kernel) rfl (Nat.le_of_ble_eq_true rfl) ?_
  intro p e s mi below meth c ls C E9 N9 htab hr hlocks hml hl H locs hw
  obtain ⟨hx, hb, hts, hown, hK, hNw⟩ := id C
  have hl : lv_has ls 6 [(0, .ref (ad (0, 0, 0))), (1, .int x), (2, .int y), (3, .int z), (4, .ref (ad (14, 0, 0)))] := hl
  refine lv_aload hx hb dL_bring_0 (lv_at hl 4 rfl) ?_
  refine lv_iconst (v := 0) hx hb dL_bring_2 (by decide) ?_
  refine lv_aload_n hx hb dL_bring_3 rfl (lv_at hl 0 rfl) ?_
  refine lv_iload_n hx hb dL_bring_4 rfl (lv_at hl 1 rfl) ?_
  refine lv_iload_n hx hb dL_bring_5 rfl (lv_at hl 2 rfl) ?_
  refine lv_iload_n hx hb dL_bring_6 rfl (lv_at hl 3 rfl) ?_
  refine vx_calli (zrunVx (rest := [.int 0, .ref (ad (14, 0, 0))]) C E9 hml hl.1 hw (zn0 hL) rfl rfl (c_X6_bring l hst D cy ad m H.size hL hfq lfq hhn lhn x y z) zv_L_40 rfl rfl rfl ⟨Nat.le_of_ble_eq_true rfl, Nat.le_of_ble_eq_true rfl⟩ rfl (Nat.le_of_ble_eq_true rfl) dL_bring_7 ⟨Nat.le_of_ble_eq_true rfl, Nat.le_of_ble_eq_true rfl⟩) hw.2.2 (zhA hw).1 (zhA hw).2 (zhA hw).1 (fun E ce q9 u t H1 locs1 ht _ _ hB _ _ hS hce hcv hcl => ?_) (fun r u t H1 locs1 ht _ hpo hB _ _ hS => ?_)
  · skip
    obtain ⟨⟨kx, hk0, rfl, hQ⟩, hB⟩ := hB
    have hw := zback C hw ht hB hS
    rcases q6_bring_k hQ hk0 with rfl | rfl
    · skip
      refine vx_catch (own := RL) (name := "java/lang/IllegalArgumentException") hown [] ⟨0, 12, 15, 15⟩ [⟨0, 12, 19, 25⟩] htab (fun z hz => absurd hz List.not_mem_nil) (by decide) (by decide) (hts _ (zr_5 _ (List.mem_of_getElem? (i := 11) rfl))) (va_Nw.use rfl (E9.2.2.2.1 2 (by decide))) hce hcv hcl ?_
      refine lv_astore (lv' := [(5, .ref q9), (0, .ref (ad (0, 0, 0))), (1, .int x), (2, .int y), (3, .int z), (4, .ref (ad (14, 0, 0)))]) hx hb dL_bring_15 hl (by decide) rfl (fun ls hl => ?_)
      refine lv_iconst (v := 1) hx hb dL_bring_17 (by decide) ?_
      refine W.widen (k := 2) (n := 12) (by omega) (by omega) ?_
      exact zret_i C hr hlocks hw dL_bring_18 (by rw [hQ]; exact ⟨rfl, rfl⟩)
    · skip
      refine vx_catch (own := RL) (name := "java/lang/IllegalStateException") hown [⟨0, 12, 15, 15⟩] ⟨0, 12, 19, 25⟩ [] htab (fun z hz => by
        obtain rfl := List.mem_singleton.mp hz
        exact Or.inr ⟨by decide, _, hts _ (zr_5 _ (List.mem_of_getElem? (i := 11) rfl)), N9.2.2.1⟩) (by decide) (by decide) (hts _ (zr_7 _ (List.mem_of_getElem? (i := 4) rfl))) (va_Nw.use rfl (E9.2.2.2.1 3 (by decide))) hce hcv hcl ?_
      refine lv_astore (lv' := [(5, .ref q9), (0, .ref (ad (0, 0, 0))), (1, .int x), (2, .int y), (3, .int z), (4, .ref (ad (14, 0, 0)))]) hx hb dL_bring_19 hl (by decide) rfl (fun ls hl => ?_)
      refine lv_iconst (v := 2) hx hb dL_bring_21 (by decide) ?_
      refine W.widen (k := 2) (n := 12) (by omega) (by omega) ?_
      exact zret_i C hr hlocks hw dL_bring_22 (by rw [hQ]; exact ⟨rfl, rfl⟩)
  have hw := zback C hw ht hB hS
  refine lv_i2l hx hb dL_bring_10 rfl ?_
  refine zlast C hw (zn14 hL) dL_bring_11 (fun H locs m1 em1 hw => ?_)
  refine lv_goto (tgt := 23) hx hb dL_bring_12 (by decide) ?_
  refine lv_iconst (v := 0) hx hb dL_bring_23 (by decide) ?_
  refine W.widen (k := 2) (n := 12) (by omega) (by omega) ?_
  exact zret_i C hr hlocks hw dL_bring_24 (by rw [hpo]; exact ⟨rfl, em1⟩)
theorem zv_L_107 : zGSW RL 107 yL_bring cL_bring 6 (some .int) [(0, 12, 15, 15), (0, 12, 19, 25)] 5 := ⟨zgsw (zr_11 _ (List.mem_of_getElem? (i := 2) rfl)) (zr_11 _ (List.mem_of_getElem? (i := 3) rfl)) (zr_5 _ (List.mem_of_getElem? (i := 8) rfl)) (zr_11 _ (List.mem_of_getElem? (i := 4) rfl)), by decide +kernel⟩

set_option maxHeartbeats 4000000 in
set_option maxRecDepth 100000 in
theorem c_L_lot (l : Launch) (hst : l.stackTraces = false) (D : va_G) (cy : Nat → ClassId) (ad : ZN → Nat) (m : ZM) (sz : Nat) {L : List ZN} (hL : zL L) {fq hn : Nat} (hfq : m (8, 0, 0) 1 = nI fq) (lfq : fq < 30) (hhn : m (8, 0, 0) 2 = nI hn) (lhn : hn ≤ 30) (i k : Int32) : Met l yL_lot (zwsW yL_lot cL_lot 5 (some .int) [(0, 10, 13, 13)]) ({ frames := 7, cells := 1, slots := 6, locals := 122 } : Room) (zPw D cy ad L m sz [.ref (ad (0, 0, 0)), .int i, .int k, .ref (ad (14, 0, 0))]) (zQi (fun r m1 => r = (zlr 1 9 9 (q6_lot m fq hn i k)).1 ∧ m1 = (zlr 1 9 9 (q6_lot m fq hn i k)).2) D cy ad L sz) 1 6 (zA ad L sz) := by
  refine zopenW (Qc := fun sz => zQi (fun r m1 => r = (zlr 1 9 9 (q6_lot m fq hn i k)).1 ∧ m1 = (zlr 1 9 9 (q6_lot m fq hn i k)).2) D cy ad L sz) RL (by decide +kernel) rfl (Nat.le_of_ble_eq_true rfl) ?_
  intro p e s mi below meth c ls C E9 N9 htab hr hlocks hml hl H locs hw
  obtain ⟨hx, hb, hts, hown, hK, hNw⟩ := id C
  have hl : lv_has ls 5 [(0, .ref (ad (0, 0, 0))), (1, .int i), (2, .int k), (3, .ref (ad (14, 0, 0)))] := hl
  refine lv_aload_n hx hb dL_lot_0 rfl (lv_at hl 3 rfl) ?_
  refine lv_iconst (v := 0) hx hb dL_lot_1 (by decide) ?_
  refine lv_aload_n hx hb dL_lot_2 rfl (lv_at hl 0 rfl) ?_
  refine lv_iload_n hx hb dL_lot_3 rfl (lv_at hl 1 rfl) ?_
  refine lv_iload_n hx hb dL_lot_4 rfl (lv_at hl 2 rfl) ?_
  refine vx_calli (zrunVx (rest := [.int 0, .ref (ad (14, 0, 0))]) C E9 hml hl.1 hw (zn0 hL) rfl rfl (c_X6_lot l hst D cy ad m H.size hL hfq lfq hhn lhn i k) zv_L_43 rfl rfl rfl ⟨Nat.le_of_ble_eq_true rfl, Nat.le_of_ble_eq_true rfl⟩ rfl (Nat.le_of_ble_eq_true rfl) dL_lot_5 ⟨Nat.le_of_ble_eq_true rfl, Nat.le_of_ble_eq_true rfl⟩) hw.2.2 (zhA hw).1 (zhA hw).2 (zhA hw).1 (fun E ce q9 u t H1 locs1 ht _ _ hB _ _ hS hce hcv hcl => ?_) (fun r u t H1 locs1 ht _ hpo hB _ _ hS => ?_)
  · skip
    obtain ⟨⟨kx, hk0, rfl, hQ⟩, hB⟩ := hB
    have hw := zback C hw ht hB hS
    rcases q6_lot_k hQ hk0 with rfl
    · skip
      refine vx_catch (own := RL) (name := "java/lang/IndexOutOfBoundsException") hown [] ⟨0, 10, 13, 13⟩ [] htab (fun z hz => absurd hz List.not_mem_nil) (by decide) (by decide) (hts _ (zr_5 _ (List.mem_of_getElem? (i := 10) rfl))) (va_Nw.use rfl (E9.2.2.2.1 1 (by decide))) hce hcv hcl ?_
      refine lv_astore (lv' := [(4, .ref q9), (0, .ref (ad (0, 0, 0))), (1, .int i), (2, .int k), (3, .ref (ad (14, 0, 0)))]) hx hb dL_lot_13 hl (by decide) rfl (fun ls hl => ?_)
      refine lv_iconst (v := 1) hx hb dL_lot_15 (by decide) ?_
      refine W.widen (k := 1) (n := 6) (by omega) (by omega) ?_
      exact zret_i C hr hlocks hw dL_lot_16 (by rw [hQ]; exact ⟨rfl, rfl⟩)
  have hw := zback C hw ht hB hS
  refine lv_i2l hx hb dL_lot_8 rfl ?_
  refine zlast C hw (zn14 hL) dL_lot_9 (fun H locs m1 em1 hw => ?_)
  refine lv_goto (tgt := 17) hx hb dL_lot_10 (by decide) ?_
  refine lv_iconst (v := 0) hx hb dL_lot_17 (by decide) ?_
  refine W.widen (k := 1) (n := 6) (by omega) (by omega) ?_
  exact zret_i C hr hlocks hw dL_lot_18 (by rw [hpo]; exact ⟨rfl, em1⟩)
theorem zv_L_110 : zGSW RL 110 yL_lot cL_lot 5 (some .int) [(0, 10, 13, 13)] 4 := ⟨zgsw (zr_12 _ (List.mem_of_getElem? (i := 22) rfl)) (zr_12 _ (List.mem_of_getElem? (i := 23) rfl)) (zr_5 _ (List.mem_of_getElem? (i := 8) rfl)) (zr_13 _ (List.mem_of_getElem? (i := 0) rfl)), by decide +kernel⟩

set_option maxHeartbeats 4000000 in
set_option maxRecDepth 100000 in
theorem c_L_run (l : Launch) (hst : l.stackTraces = false) (D : va_G) (cy : Nat → ClassId) (ad : ZN → Nat) (m : ZM) (sz : Nat) {L : List ZN} (hL : zL L) {bc : Nat} {sc bu : Nat → Nat} {hq : Nat} (G : gW m 0 bc sc bu hq) (lq : hq ≤ 5000) (h : Int32) : Met l yL_run (zwsW yL_run cL_run 4 (some .int) [(0, 9, 12, 15), (0, 9, 15, 25)]) ({ frames := 8, cells := 2, slots := 12, locals := 163 } : Room) (zPw D cy ad L m sz [.ref (ad (0, 0, 0)), .int h, .ref (ad (14, 0, 0))]) (zQi (fun r m1 => r = (zlr 2 3 9 (q6_run m bc sc bu hq h)).1 ∧ m1 = (zlr 2 3 9 (q6_run m bc sc bu hq h)).2) D cy ad L sz) 2 12 (zA ad L sz) := by
  refine zopenW (Qc := fun sz => zQi (fun r m1 => r = (zlr 2 3 9 (q6_run m bc sc bu hq h)).1 ∧ m1 = (zlr 2 3 9 (q6_run m bc sc bu hq h)).2) D cy ad L sz) RL (by decide +kernel) rfl (Nat.le_of_ble_eq_true rfl) ?_
  intro p e s mi below meth c ls C E9 N9 htab hr hlocks hml hl H locs hw
  obtain ⟨hx, hb, hts, hown, hK, hNw⟩ := id C
  have hl : lv_has ls 4 [(0, .ref (ad (0, 0, 0))), (1, .int h), (2, .ref (ad (14, 0, 0)))] := hl
  refine lv_aload_n hx hb dL_run_0 rfl (lv_at hl 2 rfl) ?_
  refine lv_iconst (v := 0) hx hb dL_run_1 (by decide) ?_
  refine lv_aload_n hx hb dL_run_2 rfl (lv_at hl 0 rfl) ?_
  refine lv_iload_n hx hb dL_run_3 rfl (lv_at hl 1 rfl) ?_
  refine vx_calli (zrunVx (rest := [.int 0, .ref (ad (14, 0, 0))]) C E9 hml hl.1 hw (zn0 hL) rfl rfl (c_X6_run l hst D cy ad m H.size hL G lq h) zv_L_46 rfl rfl rfl ⟨Nat.le_of_ble_eq_true rfl, Nat.le_of_ble_eq_true rfl⟩ rfl (Nat.le_of_ble_eq_true rfl) dL_run_4 ⟨Nat.le_of_ble_eq_true rfl, Nat.le_of_ble_eq_true rfl⟩) hw.2.2 (zhA hw).1 (zhA hw).2 (zhA hw).1 (fun E ce q9 u t H1 locs1 ht _ _ hB _ _ hS hce hcv hcl => ?_) (fun r u t H1 locs1 ht _ hpo hB _ _ hS => ?_)
  · skip
    obtain ⟨⟨kx, hk0, rfl, hQ⟩, hB⟩ := hB
    have hw := zback C hw ht hB hS
    rcases q6_run_k hQ hk0 with rfl | rfl
    · skip
      refine vx_catch (own := RL) (name := "java/lang/IllegalArgumentException") hown [] ⟨0, 9, 12, 15⟩ [⟨0, 9, 15, 25⟩] htab (fun z hz => absurd hz List.not_mem_nil) (by decide) (by decide) (hts _ (zr_5 _ (List.mem_of_getElem? (i := 11) rfl))) (va_Nw.use rfl (E9.2.2.2.1 2 (by decide))) hce hcv hcl ?_
      refine lv_astore_n (lv' := [(3, .ref q9), (0, .ref (ad (0, 0, 0))), (1, .int h), (2, .ref (ad (14, 0, 0)))]) hx hb dL_run_12 rfl hl (by decide) rfl (fun ls hl => ?_)
      refine lv_iconst (v := 1) hx hb dL_run_13 (by decide) ?_
      refine W.widen (k := 2) (n := 12) (by omega) (by omega) ?_
      exact zret_i C hr hlocks hw dL_run_14 (by rw [hQ]; exact ⟨rfl, rfl⟩)
    · skip
      refine vx_catch (own := RL) (name := "java/lang/IllegalStateException") hown [⟨0, 9, 12, 15⟩] ⟨0, 9, 15, 25⟩ [] htab (fun z hz => by
        obtain rfl := List.mem_singleton.mp hz
        exact Or.inr ⟨by decide, _, hts _ (zr_5 _ (List.mem_of_getElem? (i := 11) rfl)), N9.2.2.1⟩) (by decide) (by decide) (hts _ (zr_7 _ (List.mem_of_getElem? (i := 4) rfl))) (va_Nw.use rfl (E9.2.2.2.1 3 (by decide))) hce hcv hcl ?_
      refine lv_astore_n (lv' := [(3, .ref q9), (0, .ref (ad (0, 0, 0))), (1, .int h), (2, .ref (ad (14, 0, 0)))]) hx hb dL_run_15 rfl hl (by decide) rfl (fun ls hl => ?_)
      refine lv_iconst (v := 2) hx hb dL_run_16 (by decide) ?_
      refine W.widen (k := 2) (n := 12) (by omega) (by omega) ?_
      exact zret_i C hr hlocks hw dL_run_17 (by rw [hQ]; exact ⟨rfl, rfl⟩)
  have hw := zback C hw ht hB hS
  refine lv_i2l hx hb dL_run_7 rfl ?_
  refine zlast C hw (zn14 hL) dL_run_8 (fun H locs m1 em1 hw => ?_)
  refine lv_goto (tgt := 18) hx hb dL_run_9 (by decide) ?_
  refine lv_iconst (v := 0) hx hb dL_run_18 (by decide) ?_
  refine W.widen (k := 2) (n := 12) (by omega) (by omega) ?_
  exact zret_i C hr hlocks hw dL_run_19 (by rw [hpo]; exact ⟨rfl, em1⟩)
theorem zv_L_113 : zGSW RL 113 yL_run cL_run 4 (some .int) [(0, 9, 12, 15), (0, 9, 15, 25)] 3 := ⟨zgsw (zr_14 _ (List.mem_of_getElem? (i := 0) rfl)) (zr_14 _ (List.mem_of_getElem? (i := 1) rfl)) (zr_5 _ (List.mem_of_getElem? (i := 8) rfl)) (zr_14 _ (List.mem_of_getElem? (i := 2) rfl)), by decide +kernel⟩

set_option maxHeartbeats 4000000 in
set_option maxRecDepth 100000 in
theorem c_L_count (l : Launch) (hst : l.stackTraces = false) (D : va_G) (cy : Nat → ClassId) (ad : ZN → Nat) (m : ZM) (sz : Nat) {L : List ZN} (hL : zL L) {bc : Nat} {sc bu : Nat → Nat} {hq : Nat} (G : gW m 0 bc sc bu hq) {fq hn : Nat} (hfq : m (8, 0, 0) 1 = nI fq) (lfq : fq < 30) (hhn : m (8, 0, 0) 2 = nI hn) (lhn : hn ≤ 30) (k : Int32) : Met l yL_count (zwsW yL_count cL_count 4 (some .int) [(0, 9, 12, 13)]) ({ frames := 7, cells := 1, slots := 6, locals := 121 } : Room) (zPw D cy ad L m sz [.ref (ad (0, 0, 0)), .int k, .ref (ad (14, 0, 0))]) (zQi (fun r m1 => r = (zlr 1 9 9 (q6_count m bc sc fq hn k)).1 ∧ m1 = (zlr 1 9 9 (q6_count m bc sc fq hn k)).2) D cy ad L sz) 1 6 (zA ad L sz) := by
  refine zopenW (Qc := fun sz => zQi (fun r m1 => r = (zlr 1 9 9 (q6_count m bc sc fq hn k)).1 ∧ m1 = (zlr 1 9 9 (q6_count m bc sc fq hn k)).2) D cy ad L sz) RL (by decide +kernel) rfl (Nat.le_of_ble_eq_true rfl) ?_
  intro p e s mi below meth c ls C E9 N9 htab hr hlocks hml hl H locs hw
  obtain ⟨hx, hb, hts, hown, hK, hNw⟩ := id C
  have hl : lv_has ls 4 [(0, .ref (ad (0, 0, 0))), (1, .int k), (2, .ref (ad (14, 0, 0)))] := hl
  refine lv_aload_n hx hb dL_count_0 rfl (lv_at hl 2 rfl) ?_
  refine lv_iconst (v := 0) hx hb dL_count_1 (by decide) ?_
  refine lv_aload_n hx hb dL_count_2 rfl (lv_at hl 0 rfl) ?_
  refine lv_iload_n hx hb dL_count_3 rfl (lv_at hl 1 rfl) ?_
  refine vx_calli (zrunVx (rest := [.int 0, .ref (ad (14, 0, 0))]) C E9 hml hl.1 hw (zn0 hL) rfl rfl (c_X6_count l hst D cy ad m H.size hL G hfq lfq hhn lhn k) zv_L_49 rfl rfl rfl ⟨Nat.le_of_ble_eq_true rfl, Nat.le_of_ble_eq_true rfl⟩ rfl (Nat.le_of_ble_eq_true rfl) dL_count_4 ⟨Nat.le_of_ble_eq_true rfl, Nat.le_of_ble_eq_true rfl⟩) hw.2.2 (zhA hw).1 (zhA hw).2 (zhA hw).1 (fun E ce q9 u t H1 locs1 ht _ _ hB _ _ hS hce hcv hcl => ?_) (fun r u t H1 locs1 ht _ hpo hB _ _ hS => ?_)
  · skip
    obtain ⟨⟨kx, hk0, rfl, hQ⟩, hB⟩ := hB
    have hw := zback C hw ht hB hS
    rcases q6_count_k hQ hk0 with rfl
    · skip
      refine vx_catch (own := RL) (name := "java/lang/IndexOutOfBoundsException") hown [] ⟨0, 9, 12, 13⟩ [] htab (fun z hz => absurd hz List.not_mem_nil) (by decide) (by decide) (hts _ (zr_5 _ (List.mem_of_getElem? (i := 10) rfl))) (va_Nw.use rfl (E9.2.2.2.1 1 (by decide))) hce hcv hcl ?_
      refine lv_astore_n (lv' := [(3, .ref q9), (0, .ref (ad (0, 0, 0))), (1, .int k), (2, .ref (ad (14, 0, 0)))]) hx hb dL_count_12 rfl hl (by decide) rfl (fun ls hl => ?_)
      refine lv_iconst (v := 1) hx hb dL_count_13 (by decide) ?_
      refine W.widen (k := 1) (n := 6) (by omega) (by omega) ?_
      exact zret_i C hr hlocks hw dL_count_14 (by rw [hQ]; exact ⟨rfl, rfl⟩)
  have hw := zback C hw ht hB hS
  refine lv_i2l hx hb dL_count_7 rfl ?_
  refine zlast C hw (zn14 hL) dL_count_8 (fun H locs m1 em1 hw => ?_)
  refine lv_goto (tgt := 15) hx hb dL_count_9 (by decide) ?_
  refine lv_iconst (v := 0) hx hb dL_count_15 (by decide) ?_
  refine W.widen (k := 1) (n := 6) (by omega) (by omega) ?_
  exact zret_i C hr hlocks hw dL_count_16 (by rw [hpo]; exact ⟨rfl, em1⟩)
theorem zv_L_116 : zGSW RL 116 yL_count cL_count 4 (some .int) [(0, 9, 12, 13)] 3 := ⟨zgsw (zr_20 _ (List.mem_of_getElem? (i := 18) rfl)) (zr_20 _ (List.mem_of_getElem? (i := 19) rfl)) (zr_5 _ (List.mem_of_getElem? (i := 8) rfl)) (zr_20 _ (List.mem_of_getElem? (i := 20) rfl)), by decide +kernel⟩

set_option maxHeartbeats 4000000 in
set_option maxRecDepth 100000 in
theorem c_L_buddle (l : Launch) (hst : l.stackTraces = false) (D : va_G) (cy : Nat → ClassId) (ad : ZN → Nat) (m : ZM) (sz : Nat) {L : List ZN} (hL : zL L) (b k : Int32) : Met l yL_buddle (zwsW yL_buddle cL_buddle 5 (some .int) [(0, 10, 13, 13)]) ({ frames := 8, cells := 2, slots := 12, locals := 144 } : Room) (zPw D cy ad L m sz [.ref (ad (0, 0, 0)), .int b, .int k, .ref (ad (14, 0, 0))]) (zQi (fun r m1 => r = (zlr 1 9 9 (q6_buddle m b k)).1 ∧ m1 = (zlr 1 9 9 (q6_buddle m b k)).2) D cy ad L sz) 2 12 (zA ad L sz) := by
  refine zopenW (Qc := fun sz => zQi (fun r m1 => r = (zlr 1 9 9 (q6_buddle m b k)).1 ∧ m1 = (zlr 1 9 9 (q6_buddle m b k)).2) D cy ad L sz) RL (by decide +kernel) rfl (Nat.le_of_ble_eq_true rfl) ?_
  intro p e s mi below meth c ls C E9 N9 htab hr hlocks hml hl H locs hw
  obtain ⟨hx, hb, hts, hown, hK, hNw⟩ := id C
  have hl : lv_has ls 5 [(0, .ref (ad (0, 0, 0))), (1, .int b), (2, .int k), (3, .ref (ad (14, 0, 0)))] := hl
  refine lv_aload_n hx hb dL_buddle_0 rfl (lv_at hl 3 rfl) ?_
  refine lv_iconst (v := 0) hx hb dL_buddle_1 (by decide) ?_
  refine lv_aload_n hx hb dL_buddle_2 rfl (lv_at hl 0 rfl) ?_
  refine lv_iload_n hx hb dL_buddle_3 rfl (lv_at hl 1 rfl) ?_
  refine lv_iload_n hx hb dL_buddle_4 rfl (lv_at hl 2 rfl) ?_
  refine vx_calli (zrunVx (rest := [.int 0, .ref (ad (14, 0, 0))]) C E9 hml hl.1 hw (zn0 hL) rfl rfl (c_X6_buddle l hst D cy ad m H.size hL b k) zv_L_52 rfl rfl rfl ⟨Nat.le_of_ble_eq_true rfl, Nat.le_of_ble_eq_true rfl⟩ rfl (Nat.le_of_ble_eq_true rfl) dL_buddle_5 ⟨Nat.le_of_ble_eq_true rfl, Nat.le_of_ble_eq_true rfl⟩) hw.2.2 (zhA hw).1 (zhA hw).2 (zhA hw).1 (fun E ce q9 u t H1 locs1 ht _ _ hB _ _ hS hce hcv hcl => ?_) (fun r u t H1 locs1 ht _ hpo hB _ _ hS => ?_)
  · skip
    obtain ⟨⟨kx, hk0, rfl, hQ⟩, hB⟩ := hB
    have hw := zback C hw ht hB hS
    rcases q6_buddle_k hQ hk0 with rfl
    · skip
      refine vx_catch (own := RL) (name := "java/lang/IndexOutOfBoundsException") hown [] ⟨0, 10, 13, 13⟩ [] htab (fun z hz => absurd hz List.not_mem_nil) (by decide) (by decide) (hts _ (zr_5 _ (List.mem_of_getElem? (i := 10) rfl))) (va_Nw.use rfl (E9.2.2.2.1 1 (by decide))) hce hcv hcl ?_
      refine lv_astore (lv' := [(4, .ref q9), (0, .ref (ad (0, 0, 0))), (1, .int b), (2, .int k), (3, .ref (ad (14, 0, 0)))]) hx hb dL_buddle_13 hl (by decide) rfl (fun ls hl => ?_)
      refine lv_iconst (v := 1) hx hb dL_buddle_15 (by decide) ?_
      refine W.widen (k := 2) (n := 12) (by omega) (by omega) ?_
      exact zret_i C hr hlocks hw dL_buddle_16 (by rw [hQ]; exact ⟨rfl, rfl⟩)
  have hw := zback C hw ht hB hS
  refine lv_i2l hx hb dL_buddle_8 rfl ?_
  refine zlast C hw (zn14 hL) dL_buddle_9 (fun H locs m1 em1 hw => ?_)
  refine lv_goto (tgt := 17) hx hb dL_buddle_10 (by decide) ?_
  refine lv_iconst (v := 0) hx hb dL_buddle_17 (by decide) ?_
  refine W.widen (k := 2) (n := 12) (by omega) (by omega) ?_
  exact zret_i C hr hlocks hw dL_buddle_18 (by rw [hpo]; exact ⟨rfl, em1⟩)
theorem zv_L_119 : zGSW RL 119 yL_buddle cL_buddle 5 (some .int) [(0, 10, 13, 13)] 4 := ⟨zgsw (zr_22 _ (List.mem_of_getElem? (i := 17) rfl)) (zr_22 _ (List.mem_of_getElem? (i := 18) rfl)) (zr_5 _ (List.mem_of_getElem? (i := 8) rfl)) (zr_22 _ (List.mem_of_getElem? (i := 19) rfl)), by decide +kernel⟩

set_option maxHeartbeats 4000000 in
set_option maxRecDepth 100000 in
theorem c_L_wash (l : Launch) (hst : l.stackTraces = false) (D : va_G) (cy : Nat → ClassId) (ad : ZN → Nat) (m : ZM) (sz : Nat) {L : List ZN} (hL : zL L) {fq hn : Nat} (hfq : m (8, 0, 0) 1 = nI fq) (lfq : fq < 30) (hhn : m (8, 0, 0) 2 = nI hn) (lhn : hn ≤ 30) (b x : Int32) : Met l yL_wash (zwsW yL_wash cL_wash 5 (some .int) [(0, 10, 13, 13), (0, 10, 17, 15), (0, 10, 21, 25)]) ({ frames := 8, cells := 3, slots := 18, locals := 144 } : Room) (zPw D cy ad L m sz [.ref (ad (0, 0, 0)), .int b, .int x, .ref (ad (14, 0, 0))]) (zQi (fun r m1 => r = (zlr 1 2 3 (q6_wash m fq hn b x)).1 ∧ m1 = (zlr 1 2 3 (q6_wash m fq hn b x)).2) D cy ad L sz) 3 18 (zA ad L sz) := by
  refine zopenW (Qc := fun sz => zQi (fun r m1 => r = (zlr 1 2 3 (q6_wash m fq hn b x)).1 ∧ m1 = (zlr 1 2 3 (q6_wash m fq hn b x)).2) D cy ad L sz) RL (by decide +kernel) rfl (Nat.le_of_ble_eq_true rfl) ?_
  intro p e s mi below meth c ls C E9 N9 htab hr hlocks hml hl H locs hw
  obtain ⟨hx, hb, hts, hown, hK, hNw⟩ := id C
  have hl : lv_has ls 5 [(0, .ref (ad (0, 0, 0))), (1, .int b), (2, .int x), (3, .ref (ad (14, 0, 0)))] := hl
  refine lv_aload_n hx hb dL_wash_0 rfl (lv_at hl 3 rfl) ?_
  refine lv_iconst (v := 0) hx hb dL_wash_1 (by decide) ?_
  refine lv_aload_n hx hb dL_wash_2 rfl (lv_at hl 0 rfl) ?_
  refine lv_iload_n hx hb dL_wash_3 rfl (lv_at hl 1 rfl) ?_
  refine lv_iload_n hx hb dL_wash_4 rfl (lv_at hl 2 rfl) ?_
  refine vx_calli (zrunVx (rest := [.int 0, .ref (ad (14, 0, 0))]) C E9 hml hl.1 hw (zn0 hL) rfl rfl (c_X6_wash l hst D cy ad m H.size hL hfq lfq hhn lhn b x) zv_L_55 rfl rfl rfl ⟨Nat.le_of_ble_eq_true rfl, Nat.le_of_ble_eq_true rfl⟩ rfl (Nat.le_of_ble_eq_true rfl) dL_wash_5 ⟨Nat.le_of_ble_eq_true rfl, Nat.le_of_ble_eq_true rfl⟩) hw.2.2 (zhA hw).1 (zhA hw).2 (zhA hw).1 (fun E ce q9 u t H1 locs1 ht _ _ hB _ _ hS hce hcv hcl => ?_) (fun r u t H1 locs1 ht _ hpo hB _ _ hS => ?_)
  · skip
    obtain ⟨⟨kx, hk0, rfl, hQ⟩, hB⟩ := hB
    have hw := zback C hw ht hB hS
    rcases q6_wash_k hQ hk0 with rfl | rfl | rfl
    · skip
      refine vx_catch (own := RL) (name := "java/lang/IndexOutOfBoundsException") hown [] ⟨0, 10, 13, 13⟩ [⟨0, 10, 17, 15⟩, ⟨0, 10, 21, 25⟩] htab (fun z hz => absurd hz List.not_mem_nil) (by decide) (by decide) (hts _ (zr_5 _ (List.mem_of_getElem? (i := 10) rfl))) (va_Nw.use rfl (E9.2.2.2.1 1 (by decide))) hce hcv hcl ?_
      refine lv_astore (lv' := [(4, .ref q9), (0, .ref (ad (0, 0, 0))), (1, .int b), (2, .int x), (3, .ref (ad (14, 0, 0)))]) hx hb dL_wash_13 hl (by decide) rfl (fun ls hl => ?_)
      refine lv_iconst (v := 1) hx hb dL_wash_15 (by decide) ?_
      refine W.widen (k := 3) (n := 18) (by omega) (by omega) ?_
      exact zret_i C hr hlocks hw dL_wash_16 (by rw [hQ]; exact ⟨rfl, rfl⟩)
    · skip
      refine vx_catch (own := RL) (name := "java/lang/IllegalArgumentException") hown [⟨0, 10, 13, 13⟩] ⟨0, 10, 17, 15⟩ [⟨0, 10, 21, 25⟩] htab (fun z hz => by
        obtain rfl := List.mem_singleton.mp hz
        exact Or.inr ⟨by decide, _, hts _ (zr_5 _ (List.mem_of_getElem? (i := 10) rfl)), N9.1⟩) (by decide) (by decide) (hts _ (zr_5 _ (List.mem_of_getElem? (i := 11) rfl))) (va_Nw.use rfl (E9.2.2.2.1 2 (by decide))) hce hcv hcl ?_
      refine lv_astore (lv' := [(4, .ref q9), (0, .ref (ad (0, 0, 0))), (1, .int b), (2, .int x), (3, .ref (ad (14, 0, 0)))]) hx hb dL_wash_17 hl (by decide) rfl (fun ls hl => ?_)
      refine lv_iconst (v := 2) hx hb dL_wash_19 (by decide) ?_
      refine W.widen (k := 3) (n := 18) (by omega) (by omega) ?_
      exact zret_i C hr hlocks hw dL_wash_20 (by rw [hQ]; exact ⟨rfl, rfl⟩)
    · skip
      refine vx_catch (own := RL) (name := "java/lang/IllegalStateException") hown [⟨0, 10, 13, 13⟩, ⟨0, 10, 17, 15⟩] ⟨0, 10, 21, 25⟩ [] htab (fun z hz => by
        rcases List.mem_cons.mp hz with rfl | hz
        · exact Or.inr ⟨by decide, _, hts _ (zr_5 _ (List.mem_of_getElem? (i := 10) rfl)), N9.2.1⟩
        obtain rfl := List.mem_singleton.mp hz
        exact Or.inr ⟨by decide, _, hts _ (zr_5 _ (List.mem_of_getElem? (i := 11) rfl)), N9.2.2.1⟩) (by decide) (by decide) (hts _ (zr_7 _ (List.mem_of_getElem? (i := 4) rfl))) (va_Nw.use rfl (E9.2.2.2.1 3 (by decide))) hce hcv hcl ?_
      refine lv_astore (lv' := [(4, .ref q9), (0, .ref (ad (0, 0, 0))), (1, .int b), (2, .int x), (3, .ref (ad (14, 0, 0)))]) hx hb dL_wash_21 hl (by decide) rfl (fun ls hl => ?_)
      refine lv_iconst (v := 3) hx hb dL_wash_23 (by decide) ?_
      refine W.widen (k := 3) (n := 18) (by omega) (by omega) ?_
      exact zret_i C hr hlocks hw dL_wash_24 (by rw [hQ]; exact ⟨rfl, rfl⟩)
  have hw := zback C hw ht hB hS
  refine lv_i2l hx hb dL_wash_8 rfl ?_
  refine zlast C hw (zn14 hL) dL_wash_9 (fun H locs m1 em1 hw => ?_)
  refine lv_goto (tgt := 25) hx hb dL_wash_10 (by decide) ?_
  refine lv_iconst (v := 0) hx hb dL_wash_25 (by decide) ?_
  refine W.widen (k := 3) (n := 18) (by omega) (by omega) ?_
  exact zret_i C hr hlocks hw dL_wash_26 (by rw [hpo]; exact ⟨rfl, em1⟩)
theorem zv_L_122 : zGSW RL 122 yL_wash cL_wash 5 (some .int) [(0, 10, 13, 13), (0, 10, 17, 15), (0, 10, 21, 25)] 4 := ⟨zgsw (zr_23 _ (List.mem_of_getElem? (i := 18) rfl)) (zr_23 _ (List.mem_of_getElem? (i := 19) rfl)) (zr_5 _ (List.mem_of_getElem? (i := 8) rfl)) (zr_23 _ (List.mem_of_getElem? (i := 20) rfl)), by decide +kernel⟩

set_option maxHeartbeats 4000000 in
set_option maxRecDepth 100000 in
theorem c_L_again (l : Launch) (hst : l.stackTraces = false) (D : va_G) (cy : Nat → ClassId) (ad : ZN → Nat) (m : ZM) (sz : Nat) {L : List ZN} (hL : zL L) (b : Int32) : Met l yL_again (zwsW yL_again cL_again 4 (some .int) [(0, 9, 12, 13)]) ({ frames := 8, cells := 1, slots := 6, locals := 143 } : Room) (zPw D cy ad L m sz [.ref (ad (0, 0, 0)), .int b, .ref (ad (14, 0, 0))]) (zQi (fun r m1 => r = (zlr 1 9 9 (q6_again m b)).1 ∧ m1 = (zlr 1 9 9 (q6_again m b)).2) D cy ad L sz) 1 6 (zA ad L sz) := by
  refine zopenW (Qc := fun sz => zQi (fun r m1 => r = (zlr 1 9 9 (q6_again m b)).1 ∧ m1 = (zlr 1 9 9 (q6_again m b)).2) D cy ad L sz) RL (by decide +kernel) rfl (Nat.le_of_ble_eq_true rfl) ?_
  intro p e s mi below meth c ls C E9 N9 htab hr hlocks hml hl H locs hw
  obtain ⟨hx, hb, hts, hown, hK, hNw⟩ := id C
  have hl : lv_has ls 4 [(0, .ref (ad (0, 0, 0))), (1, .int b), (2, .ref (ad (14, 0, 0)))] := hl
  refine lv_aload_n hx hb dL_again_0 rfl (lv_at hl 2 rfl) ?_
  refine lv_iconst (v := 0) hx hb dL_again_1 (by decide) ?_
  refine lv_aload_n hx hb dL_again_2 rfl (lv_at hl 0 rfl) ?_
  refine lv_iload_n hx hb dL_again_3 rfl (lv_at hl 1 rfl) ?_
  refine vx_calli (zrunVx (rest := [.int 0, .ref (ad (14, 0, 0))]) C E9 hml hl.1 hw (zn0 hL) rfl rfl (c_X6_again l hst D cy ad m H.size hL b) zv_L_58 rfl rfl rfl ⟨Nat.le_of_ble_eq_true rfl, Nat.le_of_ble_eq_true rfl⟩ rfl (Nat.le_of_ble_eq_true rfl) dL_again_4 ⟨Nat.le_of_ble_eq_true rfl, Nat.le_of_ble_eq_true rfl⟩) hw.2.2 (zhA hw).1 (zhA hw).2 (zhA hw).1 (fun E ce q9 u t H1 locs1 ht _ _ hB _ _ hS hce hcv hcl => ?_) (fun r u t H1 locs1 ht _ hpo hB _ _ hS => ?_)
  · skip
    obtain ⟨⟨kx, hk0, rfl, hQ⟩, hB⟩ := hB
    have hw := zback C hw ht hB hS
    rcases q6_again_k hQ hk0 with rfl
    · skip
      refine vx_catch (own := RL) (name := "java/lang/IndexOutOfBoundsException") hown [] ⟨0, 9, 12, 13⟩ [] htab (fun z hz => absurd hz List.not_mem_nil) (by decide) (by decide) (hts _ (zr_5 _ (List.mem_of_getElem? (i := 10) rfl))) (va_Nw.use rfl (E9.2.2.2.1 1 (by decide))) hce hcv hcl ?_
      refine lv_astore_n (lv' := [(3, .ref q9), (0, .ref (ad (0, 0, 0))), (1, .int b), (2, .ref (ad (14, 0, 0)))]) hx hb dL_again_12 rfl hl (by decide) rfl (fun ls hl => ?_)
      refine lv_iconst (v := 1) hx hb dL_again_13 (by decide) ?_
      refine W.widen (k := 1) (n := 6) (by omega) (by omega) ?_
      exact zret_i C hr hlocks hw dL_again_14 (by rw [hQ]; exact ⟨rfl, rfl⟩)
  have hw := zback C hw ht hB hS
  refine lv_i2l hx hb dL_again_7 rfl ?_
  refine zlast C hw (zn14 hL) dL_again_8 (fun H locs m1 em1 hw => ?_)
  refine lv_goto (tgt := 15) hx hb dL_again_9 (by decide) ?_
  refine lv_iconst (v := 0) hx hb dL_again_15 (by decide) ?_
  refine W.widen (k := 1) (n := 6) (by omega) (by omega) ?_
  exact zret_i C hr hlocks hw dL_again_16 (by rw [hpo]; exact ⟨rfl, em1⟩)
theorem zv_L_125 : zGSW RL 125 yL_again cL_again 4 (some .int) [(0, 9, 12, 13)] 3 := ⟨zgsw (zr_25 _ (List.mem_of_getElem? (i := 2) rfl)) (zr_25 _ (List.mem_of_getElem? (i := 3) rfl)) (zr_5 _ (List.mem_of_getElem? (i := 8) rfl)) (zr_25 _ (List.mem_of_getElem? (i := 4) rfl)), by decide +kernel⟩

set_option maxHeartbeats 4000000 in
set_option maxRecDepth 100000 in
theorem c_L_smelt (l : Launch) (hst : l.stackTraces = false) (D : va_G) (cy : Nat → ClassId) (ad : ZN → Nat) (m : ZM) (sz : Nat) {L : List ZN} (hL : zL L) (x : Int32) : Met l yL_smelt (zwsW yL_smelt cL_smelt 4 (some .int) [(0, 9, 12, 15), (0, 9, 15, 25)]) ({ frames := 7, cells := 1, slots := 6, locals := 121 } : Room) (zPw D cy ad L m sz [.ref (ad (0, 0, 0)), .int x, .ref (ad (14, 0, 0))]) (zQi (fun r m1 => r = (zlr 2 3 9 (q6_smelt m x)).1 ∧ m1 = (zlr 2 3 9 (q6_smelt m x)).2) D cy ad L sz) 1 6 (zA ad L sz) := by
  refine zopenW (Qc := fun sz => zQi (fun r m1 => r = (zlr 2 3 9 (q6_smelt m x)).1 ∧ m1 = (zlr 2 3 9 (q6_smelt m x)).2) D cy ad L sz) RL (by decide +kernel) rfl (Nat.le_of_ble_eq_true rfl) ?_
  intro p e s mi below meth c ls C E9 N9 htab hr hlocks hml hl H locs hw
  obtain ⟨hx, hb, hts, hown, hK, hNw⟩ := id C
  have hl : lv_has ls 4 [(0, .ref (ad (0, 0, 0))), (1, .int x), (2, .ref (ad (14, 0, 0)))] := hl
  refine lv_aload_n hx hb dL_smelt_0 rfl (lv_at hl 2 rfl) ?_
  refine lv_iconst (v := 0) hx hb dL_smelt_1 (by decide) ?_
  refine lv_aload_n hx hb dL_smelt_2 rfl (lv_at hl 0 rfl) ?_
  refine lv_iload_n hx hb dL_smelt_3 rfl (lv_at hl 1 rfl) ?_
  refine vx_calli (zrunVx (rest := [.int 0, .ref (ad (14, 0, 0))]) C E9 hml hl.1 hw (zn0 hL) rfl rfl (c_X6_smelt l hst D cy ad m H.size hL x) zv_L_61 rfl rfl rfl ⟨Nat.le_of_ble_eq_true rfl, Nat.le_of_ble_eq_true rfl⟩ rfl (Nat.le_of_ble_eq_true rfl) dL_smelt_4 ⟨Nat.le_of_ble_eq_true rfl, Nat.le_of_ble_eq_true rfl⟩) hw.2.2 (zhA hw).1 (zhA hw).2 (zhA hw).1 (fun E ce q9 u t H1 locs1 ht _ _ hB _ _ hS hce hcv hcl => ?_) (fun r u t H1 locs1 ht _ hpo hB _ _ hS => ?_)
  · skip
    obtain ⟨⟨kx, hk0, rfl, hQ⟩, hB⟩ := hB
    have hw := zback C hw ht hB hS
    rcases q6_smelt_k hQ hk0 with rfl | rfl
    · skip
      refine vx_catch (own := RL) (name := "java/lang/IllegalArgumentException") hown [] ⟨0, 9, 12, 15⟩ [⟨0, 9, 15, 25⟩] htab (fun z hz => absurd hz List.not_mem_nil) (by decide) (by decide) (hts _ (zr_5 _ (List.mem_of_getElem? (i := 11) rfl))) (va_Nw.use rfl (E9.2.2.2.1 2 (by decide))) hce hcv hcl ?_
      refine lv_astore_n (lv' := [(3, .ref q9), (0, .ref (ad (0, 0, 0))), (1, .int x), (2, .ref (ad (14, 0, 0)))]) hx hb dL_smelt_12 rfl hl (by decide) rfl (fun ls hl => ?_)
      refine lv_iconst (v := 1) hx hb dL_smelt_13 (by decide) ?_
      refine W.widen (k := 1) (n := 6) (by omega) (by omega) ?_
      exact zret_i C hr hlocks hw dL_smelt_14 (by rw [hQ]; exact ⟨rfl, rfl⟩)
    · skip
      refine vx_catch (own := RL) (name := "java/lang/IllegalStateException") hown [⟨0, 9, 12, 15⟩] ⟨0, 9, 15, 25⟩ [] htab (fun z hz => by
        obtain rfl := List.mem_singleton.mp hz
        exact Or.inr ⟨by decide, _, hts _ (zr_5 _ (List.mem_of_getElem? (i := 11) rfl)), N9.2.2.1⟩) (by decide) (by decide) (hts _ (zr_7 _ (List.mem_of_getElem? (i := 4) rfl))) (va_Nw.use rfl (E9.2.2.2.1 3 (by decide))) hce hcv hcl ?_
      refine lv_astore_n (lv' := [(3, .ref q9), (0, .ref (ad (0, 0, 0))), (1, .int x), (2, .ref (ad (14, 0, 0)))]) hx hb dL_smelt_15 rfl hl (by decide) rfl (fun ls hl => ?_)
      refine lv_iconst (v := 2) hx hb dL_smelt_16 (by decide) ?_
      refine W.widen (k := 1) (n := 6) (by omega) (by omega) ?_
      exact zret_i C hr hlocks hw dL_smelt_17 (by rw [hQ]; exact ⟨rfl, rfl⟩)
  have hw := zback C hw ht hB hS
  refine lv_i2l hx hb dL_smelt_7 rfl ?_
  refine zlast C hw (zn14 hL) dL_smelt_8 (fun H locs m1 em1 hw => ?_)
  refine lv_goto (tgt := 18) hx hb dL_smelt_9 (by decide) ?_
  refine lv_iconst (v := 0) hx hb dL_smelt_18 (by decide) ?_
  refine W.widen (k := 1) (n := 6) (by omega) (by omega) ?_
  exact zret_i C hr hlocks hw dL_smelt_19 (by rw [hpo]; exact ⟨rfl, em1⟩)
theorem zv_L_128 : zGSW RL 128 yL_smelt cL_smelt 4 (some .int) [(0, 9, 12, 15), (0, 9, 15, 25)] 3 := ⟨zgsw (zr_25 _ (List.mem_of_getElem? (i := 17) rfl)) (zr_25 _ (List.mem_of_getElem? (i := 18) rfl)) (zr_5 _ (List.mem_of_getElem? (i := 8) rfl)) (zr_25 _ (List.mem_of_getElem? (i := 19) rfl)), by decide +kernel⟩

set_option maxHeartbeats 4000000 in
set_option maxRecDepth 100000 in
theorem c_L_foresee (l : Launch) (hst : l.stackTraces = false) (D : va_G) (cy : Nat → ClassId) (ad : ZN → Nat) (m : ZM) (sz : Nat) {L : List ZN} (hL : zL L) {bc : Nat} {sc bu : Nat → Nat} {hq : Nat} (G : gW m 0 bc sc bu hq) {fq hn : Nat} (hfq : m (8, 0, 0) 1 = nI fq) (lfq : fq < 30) (hhn : m (8, 0, 0) 2 = nI hn) (lhn : hn ≤ 30) (T : gT m) (lq : hq ≤ 5000) (h k : Int32) : Met l yL_foresee (zwsW yL_foresee cL_foresee 5 (some .int) [(0, 10, 13, 15), (0, 10, 17, 13), (0, 10, 21, 25)]) ({ frames := 8, cells := 3, slots := 18, locals := 165 } : Room) (zPw D cy ad L m sz [.ref (ad (0, 0, 0)), .int h, .int k, .ref (ad (14, 0, 0))]) (zQi (fun r m1 => r = (zlr 2 1 3 (q6_foresee m bc sc hq fq hn h k)).1 ∧ m1 = (zlr 2 1 3 (q6_foresee m bc sc hq fq hn h k)).2) D cy ad L sz) 3 18 (zA ad L sz) := by
  refine zopenW (Qc := fun sz => zQi (fun r m1 => r = (zlr 2 1 3 (q6_foresee m bc sc hq fq hn h k)).1 ∧ m1 = (zlr 2 1 3 (q6_foresee m bc sc hq fq hn h k)).2) D cy ad L sz) RL (by decide +kernel) rfl (Nat.le_of_ble_eq_true rfl) ?_
  intro p e s mi below meth c ls C E9 N9 htab hr hlocks hml hl H locs hw
  obtain ⟨hx, hb, hts, hown, hK, hNw⟩ := id C
  have hl : lv_has ls 5 [(0, .ref (ad (0, 0, 0))), (1, .int h), (2, .int k), (3, .ref (ad (14, 0, 0)))] := hl
  refine lv_aload_n hx hb dL_foresee_0 rfl (lv_at hl 3 rfl) ?_
  refine lv_iconst (v := 0) hx hb dL_foresee_1 (by decide) ?_
  refine lv_aload_n hx hb dL_foresee_2 rfl (lv_at hl 0 rfl) ?_
  refine lv_iload_n hx hb dL_foresee_3 rfl (lv_at hl 1 rfl) ?_
  refine lv_iload_n hx hb dL_foresee_4 rfl (lv_at hl 2 rfl) ?_
  refine vx_calli (zrunVx (rest := [.int 0, .ref (ad (14, 0, 0))]) C E9 hml hl.1 hw (zn0 hL) rfl rfl (c_X6_foresee l hst D cy ad m H.size hL G hfq lfq hhn lhn T lq h k) zv_L_64 rfl rfl rfl ⟨Nat.le_of_ble_eq_true rfl, Nat.le_of_ble_eq_true rfl⟩ rfl (Nat.le_of_ble_eq_true rfl) dL_foresee_5 ⟨Nat.le_of_ble_eq_true rfl, Nat.le_of_ble_eq_true rfl⟩) hw.2.2 (zhA hw).1 (zhA hw).2 (zhA hw).1 (fun E ce q9 u t H1 locs1 ht _ _ hB _ _ hS hce hcv hcl => ?_) (fun r u t H1 locs1 ht _ hpo hB _ _ hS => ?_)
  · skip
    obtain ⟨⟨kx, hk0, rfl, hQ⟩, hB⟩ := hB
    have hw := zback C hw ht hB hS
    rcases q6_foresee_k hQ hk0 with rfl | rfl | rfl
    · skip
      refine vx_catch (own := RL) (name := "java/lang/IndexOutOfBoundsException") hown [⟨0, 10, 13, 15⟩] ⟨0, 10, 17, 13⟩ [⟨0, 10, 21, 25⟩] htab (fun z hz => by
        obtain rfl := List.mem_singleton.mp hz
        exact Or.inr ⟨by decide, _, hts _ (zr_5 _ (List.mem_of_getElem? (i := 11) rfl)), N9.2.2.2⟩) (by decide) (by decide) (hts _ (zr_5 _ (List.mem_of_getElem? (i := 10) rfl))) (va_Nw.use rfl (E9.2.2.2.1 1 (by decide))) hce hcv hcl ?_
      refine lv_astore (lv' := [(4, .ref q9), (0, .ref (ad (0, 0, 0))), (1, .int h), (2, .int k), (3, .ref (ad (14, 0, 0)))]) hx hb dL_foresee_17 hl (by decide) rfl (fun ls hl => ?_)
      refine lv_iconst (v := 2) hx hb dL_foresee_19 (by decide) ?_
      refine W.widen (k := 3) (n := 18) (by omega) (by omega) ?_
      exact zret_i C hr hlocks hw dL_foresee_20 (by rw [hQ]; exact ⟨rfl, rfl⟩)
    · skip
      refine vx_catch (own := RL) (name := "java/lang/IllegalArgumentException") hown [] ⟨0, 10, 13, 15⟩ [⟨0, 10, 17, 13⟩, ⟨0, 10, 21, 25⟩] htab (fun z hz => absurd hz List.not_mem_nil) (by decide) (by decide) (hts _ (zr_5 _ (List.mem_of_getElem? (i := 11) rfl))) (va_Nw.use rfl (E9.2.2.2.1 2 (by decide))) hce hcv hcl ?_
      refine lv_astore (lv' := [(4, .ref q9), (0, .ref (ad (0, 0, 0))), (1, .int h), (2, .int k), (3, .ref (ad (14, 0, 0)))]) hx hb dL_foresee_13 hl (by decide) rfl (fun ls hl => ?_)
      refine lv_iconst (v := 1) hx hb dL_foresee_15 (by decide) ?_
      refine W.widen (k := 3) (n := 18) (by omega) (by omega) ?_
      exact zret_i C hr hlocks hw dL_foresee_16 (by rw [hQ]; exact ⟨rfl, rfl⟩)
    · skip
      refine vx_catch (own := RL) (name := "java/lang/IllegalStateException") hown [⟨0, 10, 13, 15⟩, ⟨0, 10, 17, 13⟩] ⟨0, 10, 21, 25⟩ [] htab (fun z hz => by
        rcases List.mem_cons.mp hz with rfl | hz
        · exact Or.inr ⟨by decide, _, hts _ (zr_5 _ (List.mem_of_getElem? (i := 11) rfl)), N9.2.2.1⟩
        obtain rfl := List.mem_singleton.mp hz
        exact Or.inr ⟨by decide, _, hts _ (zr_5 _ (List.mem_of_getElem? (i := 10) rfl)), N9.2.1⟩) (by decide) (by decide) (hts _ (zr_7 _ (List.mem_of_getElem? (i := 4) rfl))) (va_Nw.use rfl (E9.2.2.2.1 3 (by decide))) hce hcv hcl ?_
      refine lv_astore (lv' := [(4, .ref q9), (0, .ref (ad (0, 0, 0))), (1, .int h), (2, .int k), (3, .ref (ad (14, 0, 0)))]) hx hb dL_foresee_21 hl (by decide) rfl (fun ls hl => ?_)
      refine lv_iconst (v := 3) hx hb dL_foresee_23 (by decide) ?_
      refine W.widen (k := 3) (n := 18) (by omega) (by omega) ?_
      exact zret_i C hr hlocks hw dL_foresee_24 (by rw [hQ]; exact ⟨rfl, rfl⟩)
  have hw := zback C hw ht hB hS
  refine lv_i2l hx hb dL_foresee_8 rfl ?_
  refine zlast C hw (zn14 hL) dL_foresee_9 (fun H locs m1 em1 hw => ?_)
  refine lv_goto (tgt := 25) hx hb dL_foresee_10 (by decide) ?_
  refine lv_iconst (v := 0) hx hb dL_foresee_25 (by decide) ?_
  refine W.widen (k := 3) (n := 18) (by omega) (by omega) ?_
  exact zret_i C hr hlocks hw dL_foresee_26 (by rw [hpo]; exact ⟨rfl, em1⟩)
theorem zv_L_131 : zGSW RL 131 yL_foresee cL_foresee 5 (some .int) [(0, 10, 13, 15), (0, 10, 17, 13), (0, 10, 21, 25)] 4 := ⟨zgsw (zr_26 _ (List.mem_of_getElem? (i := 9) rfl)) (zr_26 _ (List.mem_of_getElem? (i := 10) rfl)) (zr_5 _ (List.mem_of_getElem? (i := 8) rfl)) (zr_26 _ (List.mem_of_getElem? (i := 11) rfl)), by decide +kernel⟩

set_option maxHeartbeats 4000000 in
set_option maxRecDepth 100000 in
theorem c_L_advise (l : Launch) (hst : l.stackTraces = false) (D : va_G) (cy : Nat → ClassId) (ad : ZN → Nat) (m : ZM) (sz : Nat) {L : List ZN} (hL : zL L) {bc : Nat} {sc bu : Nat → Nat} {hq : Nat} (G : gW m 0 bc sc bu hq) {fq hn : Nat} (hfq : m (8, 0, 0) 1 = nI fq) (lfq : fq < 30) (hhn : m (8, 0, 0) 2 = nI hn) (lhn : hn ≤ 30) (T : gT m) (lq : hq ≤ 5000) (h : Int32) : Met l yL_advise (zwsW yL_advise cL_advise 4 (some .int) [(0, 9, 12, 15), (0, 9, 15, 25)]) ({ frames := 8, cells := 2, slots := 12, locals := 167 } : Room) (zPw D cy ad L m sz [.ref (ad (0, 0, 0)), .int h, .ref (ad (14, 0, 0))]) (zQi (fun r m1 => r = (zlr 2 3 9 (q6_advise m bc sc hq fq hn h)).1 ∧ m1 = (zlr 2 3 9 (q6_advise m bc sc hq fq hn h)).2) D cy ad L sz) 2 12 (zA ad L sz) := by
  refine zopenW (Qc := fun sz => zQi (fun r m1 => r = (zlr 2 3 9 (q6_advise m bc sc hq fq hn h)).1 ∧ m1 = (zlr 2 3 9 (q6_advise m bc sc hq fq hn h)).2) D cy ad L sz) RL (by decide +kernel) rfl (Nat.le_of_ble_eq_true rfl) ?_
  intro p e s mi below meth c ls C E9 N9 htab hr hlocks hml hl H locs hw
  obtain ⟨hx, hb, hts, hown, hK, hNw⟩ := id C
  have hl : lv_has ls 4 [(0, .ref (ad (0, 0, 0))), (1, .int h), (2, .ref (ad (14, 0, 0)))] := hl
  refine lv_aload_n hx hb dL_advise_0 rfl (lv_at hl 2 rfl) ?_
  refine lv_iconst (v := 0) hx hb dL_advise_1 (by decide) ?_
  refine lv_aload_n hx hb dL_advise_2 rfl (lv_at hl 0 rfl) ?_
  refine lv_iload_n hx hb dL_advise_3 rfl (lv_at hl 1 rfl) ?_
  refine vx_calli (zrunVx (rest := [.int 0, .ref (ad (14, 0, 0))]) C E9 hml hl.1 hw (zn0 hL) rfl rfl (c_X6_advise l hst D cy ad m H.size hL G hfq lfq hhn lhn T lq h) zv_L_67 rfl rfl rfl ⟨Nat.le_of_ble_eq_true rfl, Nat.le_of_ble_eq_true rfl⟩ rfl (Nat.le_of_ble_eq_true rfl) dL_advise_4 ⟨Nat.le_of_ble_eq_true rfl, Nat.le_of_ble_eq_true rfl⟩) hw.2.2 (zhA hw).1 (zhA hw).2 (zhA hw).1 (fun E ce q9 u t H1 locs1 ht _ _ hB _ _ hS hce hcv hcl => ?_) (fun r u t H1 locs1 ht _ hpo hB _ _ hS => ?_)
  · skip
    obtain ⟨⟨kx, hk0, rfl, hQ⟩, hB⟩ := hB
    have hw := zback C hw ht hB hS
    rcases q6_advise_k hQ hk0 with rfl | rfl
    · skip
      refine vx_catch (own := RL) (name := "java/lang/IllegalArgumentException") hown [] ⟨0, 9, 12, 15⟩ [⟨0, 9, 15, 25⟩] htab (fun z hz => absurd hz List.not_mem_nil) (by decide) (by decide) (hts _ (zr_5 _ (List.mem_of_getElem? (i := 11) rfl))) (va_Nw.use rfl (E9.2.2.2.1 2 (by decide))) hce hcv hcl ?_
      refine lv_astore_n (lv' := [(3, .ref q9), (0, .ref (ad (0, 0, 0))), (1, .int h), (2, .ref (ad (14, 0, 0)))]) hx hb dL_advise_12 rfl hl (by decide) rfl (fun ls hl => ?_)
      refine lv_iconst (v := 1) hx hb dL_advise_13 (by decide) ?_
      refine W.widen (k := 2) (n := 12) (by omega) (by omega) ?_
      exact zret_i C hr hlocks hw dL_advise_14 (by rw [hQ]; exact ⟨rfl, rfl⟩)
    · skip
      refine vx_catch (own := RL) (name := "java/lang/IllegalStateException") hown [⟨0, 9, 12, 15⟩] ⟨0, 9, 15, 25⟩ [] htab (fun z hz => by
        obtain rfl := List.mem_singleton.mp hz
        exact Or.inr ⟨by decide, _, hts _ (zr_5 _ (List.mem_of_getElem? (i := 11) rfl)), N9.2.2.1⟩) (by decide) (by decide) (hts _ (zr_7 _ (List.mem_of_getElem? (i := 4) rfl))) (va_Nw.use rfl (E9.2.2.2.1 3 (by decide))) hce hcv hcl ?_
      refine lv_astore_n (lv' := [(3, .ref q9), (0, .ref (ad (0, 0, 0))), (1, .int h), (2, .ref (ad (14, 0, 0)))]) hx hb dL_advise_15 rfl hl (by decide) rfl (fun ls hl => ?_)
      refine lv_iconst (v := 2) hx hb dL_advise_16 (by decide) ?_
      refine W.widen (k := 2) (n := 12) (by omega) (by omega) ?_
      exact zret_i C hr hlocks hw dL_advise_17 (by rw [hQ]; exact ⟨rfl, rfl⟩)
  have hw := zback C hw ht hB hS
  refine lv_i2l hx hb dL_advise_7 rfl ?_
  refine zlast C hw (zn14 hL) dL_advise_8 (fun H locs m1 em1 hw => ?_)
  refine lv_goto (tgt := 18) hx hb dL_advise_9 (by decide) ?_
  refine lv_iconst (v := 0) hx hb dL_advise_18 (by decide) ?_
  refine W.widen (k := 2) (n := 12) (by omega) (by omega) ?_
  exact zret_i C hr hlocks hw dL_advise_19 (by rw [hpo]; exact ⟨rfl, em1⟩)
theorem zv_L_134 : zGSW RL 134 yL_advise cL_advise 4 (some .int) [(0, 9, 12, 15), (0, 9, 15, 25)] 3 := ⟨zgsw (zr_28 _ (List.mem_of_getElem? (i := 22) rfl)) (zr_28 _ (List.mem_of_getElem? (i := 23) rfl)) (zr_5 _ (List.mem_of_getElem? (i := 8) rfl)) (zr_29 _ (List.mem_of_getElem? (i := 0) rfl)), by decide +kernel⟩

set_option maxHeartbeats 4000000 in
set_option maxRecDepth 100000 in
theorem c_L_bestWater (l : Launch) (hst : l.stackTraces = false) (D : va_G) (cy : Nat → ClassId) (ad : ZN → Nat) (m : ZM) (sz : Nat) {L : List ZN} (hL : zL L) (b x : Int32) : Met l yL_bestWater (zwsW yL_bestWater cL_bestWater 5 (some .int) [(0, 10, 13, 13), (0, 10, 17, 15)]) ({ frames := 8, cells := 2, slots := 12, locals := 149 } : Room) (zPw D cy ad L m sz [.ref (ad (0, 0, 0)), .int b, .int x, .ref (ad (14, 0, 0))]) (zQi (fun r m1 => r = (zlr 1 2 9 (q6_bestWater m b x)).1 ∧ m1 = (zlr 1 2 9 (q6_bestWater m b x)).2) D cy ad L sz) 2 12 (zA ad L sz) := by
  refine zopenW (Qc := fun sz => zQi (fun r m1 => r = (zlr 1 2 9 (q6_bestWater m b x)).1 ∧ m1 = (zlr 1 2 9 (q6_bestWater m b x)).2) D cy ad L sz) RL (by decide +kernel) rfl (Nat.le_of_ble_eq_true rfl) ?_
  intro p e s mi below meth c ls C E9 N9 htab hr hlocks hml hl H locs hw
  obtain ⟨hx, hb, hts, hown, hK, hNw⟩ := id C
  have hl : lv_has ls 5 [(0, .ref (ad (0, 0, 0))), (1, .int b), (2, .int x), (3, .ref (ad (14, 0, 0)))] := hl
  refine lv_aload_n hx hb dL_bestWater_0 rfl (lv_at hl 3 rfl) ?_
  refine lv_iconst (v := 0) hx hb dL_bestWater_1 (by decide) ?_
  refine lv_aload_n hx hb dL_bestWater_2 rfl (lv_at hl 0 rfl) ?_
  refine lv_iload_n hx hb dL_bestWater_3 rfl (lv_at hl 1 rfl) ?_
  refine lv_iload_n hx hb dL_bestWater_4 rfl (lv_at hl 2 rfl) ?_
  refine vx_calli (zrunVx (rest := [.int 0, .ref (ad (14, 0, 0))]) C E9 hml hl.1 hw (zn0 hL) rfl rfl (c_X6_bestWater l hst D cy ad m H.size hL b x) zv_L_70 rfl rfl rfl ⟨Nat.le_of_ble_eq_true rfl, Nat.le_of_ble_eq_true rfl⟩ rfl (Nat.le_of_ble_eq_true rfl) dL_bestWater_5 ⟨Nat.le_of_ble_eq_true rfl, Nat.le_of_ble_eq_true rfl⟩) hw.2.2 (zhA hw).1 (zhA hw).2 (zhA hw).1 (fun E ce q9 u t H1 locs1 ht _ _ hB _ _ hS hce hcv hcl => ?_) (fun r u t H1 locs1 ht _ hpo hB _ _ hS => ?_)
  · skip
    obtain ⟨⟨kx, hk0, rfl, hQ⟩, hB⟩ := hB
    have hw := zback C hw ht hB hS
    rcases q6_bestWater_k hQ hk0 with rfl | rfl
    · skip
      refine vx_catch (own := RL) (name := "java/lang/IndexOutOfBoundsException") hown [] ⟨0, 10, 13, 13⟩ [⟨0, 10, 17, 15⟩] htab (fun z hz => absurd hz List.not_mem_nil) (by decide) (by decide) (hts _ (zr_5 _ (List.mem_of_getElem? (i := 10) rfl))) (va_Nw.use rfl (E9.2.2.2.1 1 (by decide))) hce hcv hcl ?_
      refine lv_astore (lv' := [(4, .ref q9), (0, .ref (ad (0, 0, 0))), (1, .int b), (2, .int x), (3, .ref (ad (14, 0, 0)))]) hx hb dL_bestWater_13 hl (by decide) rfl (fun ls hl => ?_)
      refine lv_iconst (v := 1) hx hb dL_bestWater_15 (by decide) ?_
      refine W.widen (k := 2) (n := 12) (by omega) (by omega) ?_
      exact zret_i C hr hlocks hw dL_bestWater_16 (by rw [hQ]; exact ⟨rfl, rfl⟩)
    · skip
      refine vx_catch (own := RL) (name := "java/lang/IllegalArgumentException") hown [⟨0, 10, 13, 13⟩] ⟨0, 10, 17, 15⟩ [] htab (fun z hz => by
        obtain rfl := List.mem_singleton.mp hz
        exact Or.inr ⟨by decide, _, hts _ (zr_5 _ (List.mem_of_getElem? (i := 10) rfl)), N9.1⟩) (by decide) (by decide) (hts _ (zr_5 _ (List.mem_of_getElem? (i := 11) rfl))) (va_Nw.use rfl (E9.2.2.2.1 2 (by decide))) hce hcv hcl ?_
      refine lv_astore (lv' := [(4, .ref q9), (0, .ref (ad (0, 0, 0))), (1, .int b), (2, .int x), (3, .ref (ad (14, 0, 0)))]) hx hb dL_bestWater_17 hl (by decide) rfl (fun ls hl => ?_)
      refine lv_iconst (v := 2) hx hb dL_bestWater_19 (by decide) ?_
      refine W.widen (k := 2) (n := 12) (by omega) (by omega) ?_
      exact zret_i C hr hlocks hw dL_bestWater_20 (by rw [hQ]; exact ⟨rfl, rfl⟩)
  have hw := zback C hw ht hB hS
  refine lv_i2l hx hb dL_bestWater_8 rfl ?_
  refine zlast C hw (zn14 hL) dL_bestWater_9 (fun H locs m1 em1 hw => ?_)
  refine lv_goto (tgt := 21) hx hb dL_bestWater_10 (by decide) ?_
  refine lv_iconst (v := 0) hx hb dL_bestWater_21 (by decide) ?_
  refine W.widen (k := 2) (n := 12) (by omega) (by omega) ?_
  exact zret_i C hr hlocks hw dL_bestWater_22 (by rw [hpo]; exact ⟨rfl, em1⟩)
theorem zv_L_137 : zGSW RL 137 yL_bestWater cL_bestWater 5 (some .int) [(0, 10, 13, 13), (0, 10, 17, 15)] 4 := ⟨zgsw (zr_29 _ (List.mem_of_getElem? (i := 9) rfl)) (zr_29 _ (List.mem_of_getElem? (i := 10) rfl)) (zr_5 _ (List.mem_of_getElem? (i := 8) rfl)) (zr_29 _ (List.mem_of_getElem? (i := 11) rfl)), by decide +kernel⟩
