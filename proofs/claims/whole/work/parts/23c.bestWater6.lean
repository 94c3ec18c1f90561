
set_option maxHeartbeats 4000000 in
set_option maxRecDepth 100000 in
theorem c_X6_bestWater (l : Launch) (hst : l.stackTraces = false) (D : va_G) (cy : Nat → ClassId) (ad : ZN → Nat) (m : ZM) (sz : Nat) {L : List ZN} (hL : zL L) (b x : Int32) : vx_Met l yX6_bestWater (zws yX6_bestWater cX6_bestWater 9 (some .int)) ({ frames := 7, cells := 2, slots := 12, locals := 121 } : Room) (zPx D cy ad L m sz [.ref (ad (0, 0, 0)), .int b, .int x]) (zQi (fun r m1 => q6_bestWater m b x = (0, r, m1)) D cy ad L sz) (zXc (fun E u => ∃ kx, kx ≠ 0 ∧ E = zEn kx ∧ q6_bestWater m b x = (kx, 0, u)) D cy ad L sz) 2 12 (zA ad L sz) := by
  refine zXopen (Qc := fun sz => zQi (fun r m1 => q6_bestWater m b x = (0, r, m1)) D cy ad L sz) (XC := fun sz => zXc (fun E u => ∃ kx, kx ≠ 0 ∧ E = zEn kx ∧ q6_bestWater m b x = (kx, 0, u)) D cy ad L sz) RX6 (by decide +kernel) rfl (Nat.le_of_ble_eq_true rfl) ?_
  intro p e s mi below meth c ls C E9 hnt hr hlocks hml hl H locs hw
  obtain ⟨hx, hb, hts, hown, hK, hNw⟩ := id C
  have hl : lv_has ls 9 [(0, .ref (ad (0, 0, 0))), (1, .int b), (2, .int x)] := hl
  refine lv_aload_n hx hb dX6_bestWater_0 rfl (lv_at hl 0 rfl) ?_
  refine lv_iload_n hx hb dX6_bestWater_1 rfl (lv_at hl 1 rfl) ?_
  refine zxa_r C hnt hlocks hw (zrunVx (rest := []) C E9 hml hl.1 hw (zn0 hL) rfl rfl (c_X6_buddleNumbered l hst D cy ad m H.size hL b) zv_X6_145 rfl rfl rfl ⟨Nat.le_of_ble_eq_true rfl, Nat.le_of_ble_eq_true rfl⟩ rfl (Nat.le_of_ble_eq_true rfl) dX6_bestWater_2 ⟨Nat.le_of_ble_eq_true rfl, Nat.le_of_ble_eq_true rfl⟩) ⟨Nat.le_of_ble_eq_true rfl, Nat.le_of_ble_eq_true rfl⟩ (fun E u h => by obtain ⟨k9, hk9, he9, hc9, rfl⟩ := h; subst hc9; exact ⟨_, hk9, he9, if_neg hk9⟩) (fun r3 m2 H locs h1 hw => ?_)
  obtain ⟨er3, kh1, h1⟩ := h1
  rw [h1] at hw
  clear h1 m2
  subst er3
  obtain ⟨ub, lb⟩ := q6_ud_ok kh1
  refine lv_astore_n (lv' := [(3, .ref (ad (7, 0, 42 + b.toNatClampNeg))), (0, .ref (ad (0, 0, 0))), (1, .int b), (2, .int x)]) hx hb dX6_bestWater_5 rfl hl (by decide) rfl (fun ls hl => ?_)
  refine lv_iload_n hx hb dX6_bestWater_6 rfl (lv_at hl 3 rfl) ?_
  refine lv_if_ge (tgt := 20) hx hb dX6_bestWater_7 (by decide) (fun c7_4 => ?_) (fun c7_4 => ?_)
  · skip
    refine lv_aload_n hx hb dX6_bestWater_20 rfl (lv_at hl 0 rfl) ?_
    refine zafter_i C hw (zrunV (rest := []) C hml hl.1 hw (zn7 hL (by decide) (by omega)) rfl rfl (c_X3_whole l D cy ad m H.size hL (by decide) (by omega)) zv_X6_158 rfl rfl rfl ⟨Nat.le_of_ble_eq_true rfl, Nat.le_of_ble_eq_true rfl⟩ rfl (Nat.le_of_ble_eq_true rfl) dX6_bestWater_21 ⟨Nat.le_of_ble_eq_true rfl, Nat.le_of_ble_eq_true rfl⟩) (fun r7 m6 H locs h5 hw => ?_)
    obtain ⟨er7, h5⟩ := h5
    rw [h5] at hw
    clear h5 m6
    refine lv_if_ne (tgt := 29) hx hb dX6_bestWater_24 (by decide) (fun c24_8 => ?_) (fun c24_8 => ?_)
    · skip
      rw [er7] at c24_8
      refine lv_iconst (v := (-1)) hx hb dX6_bestWater_29 (by decide) ?_
      refine lv_topi (fun x9 ex9 => ?_)
      refine lv_istore (lv' := [(4, .int x9), (3, .ref (ad (7, 0, 42 + b.toNatClampNeg))), (0, .ref (ad (0, 0, 0))), (1, .int b), (2, .int x)]) hx hb dX6_bestWater_30 hl (by decide) rfl (fun ls hl => ?_)
      refine lv_iconst (v := (-1)) hx hb dX6_bestWater_32 (by decide) ?_
      refine lv_topi (fun x10 ex10 => ?_)
      refine lv_istore (lv' := [(5, .int x10), (4, .int x9), (3, .ref (ad (7, 0, 42 + b.toNatClampNeg))), (0, .ref (ad (0, 0, 0))), (1, .int b), (2, .int x)]) hx hb dX6_bestWater_33 hl (by decide) rfl (fun ls hl => ?_)
      refine lv_bipush (v := 10) hx hb dX6_bestWater_35 (by decide) ?_
      refine lv_istore (lv' := [(6, .int 10), (5, .int x10), (4, .int x9), (3, .ref (ad (7, 0, 42 + b.toNatClampNeg))), (0, .ref (ad (0, 0, 0))), (1, .int b), (2, .int x)]) hx hb dX6_bestWater_37 hl (by decide) rfl (fun ls hl => ?_)
      have loop39 : ∀ (z : Nat) (k : Nat) (x4 x5 : Int32) (H : Heap) (locs : List Loc) (ls : Array Slot), 91 - k = z → (10 ≤ k) → (k ≤ 91) → ((x4, x5) = q6_bwS m (42 + b.toNatClampNeg) x (k - 10)) → zH D cy ad L s.heap H locs m → lv_has ls 9 [(0, .ref (ad (0, 0, 0))), (1, .int b), (2, .int x), (3, .ref (ad (7, 0, 42 + b.toNatClampNeg))), (4, .int x4), (5, .int x5), (6, .int (nI k))] → W p l e ({ frames := 7, cells := 2, slots := 12, locals := 121 } : Room) s mi [.ref (ad (0, 0, 0)), .int b, .int x].toArray below meth c H locs (0 + 1) (0 + 6) (vx_MQ below (zQi (fun r m1 => q6_bestWater m b x = (0, r, m1)) D cy ad L s.heap.size) (zXc (fun E u => ∃ kx, kx ≠ 0 ∧ E = zEn kx ∧ q6_bestWater m b x = (kx, 0, u)) D cy ad L s.heap.size) [.ref (ad (0, 0, 0)), .int b, .int x].toArray s 2 12 (zA ad L s.heap.size)) (F0 mi 39 ls []) := by
        intro z
        induction z using Nat.strongRecOn with
        | _ z ih39 =>
        intro k x4 x5 H locs ls hz39 i39_1 i39_2 i39_3 hw hl
        refine lv_iload hx hb dX6_bestWater_39 (lv_at hl 6 rfl) ?_
        refine lv_bipush (v := 90) hx hb dX6_bestWater_41 (by decide) ?_
        refine lv_icmp_gt (tgt := 100) hx hb dX6_bestWater_43 (by decide) (fun c43_11 => ?_) (fun c43_11 => ?_)
        · skip
          have n12 := zlt c43_11 (a := 90) (b := k) rfl rfl (by omega) (by omega)
          refine lv_iload hx hb dX6_bestWater_100 (lv_at hl 4 rfl) ?_
          refine W.widen (k := 2) (n := 12) (by omega) (by omega) ?_
          refine vx_ret ?_
          exact zret_i C hr hlocks hw dX6_bestWater_102 ((if_pos kh1).trans ((if_pos c7_4).trans ((if_neg c24_8).trans (q6_bw_e i39_3 (by omega)))))
        · skip
          have n13 := znlt c43_11 (a := 90) (b := k) rfl rfl (by omega) (by omega)
          refine lv_aload_n hx hb dX6_bestWater_46 rfl (lv_at hl 3 rfl) ?_
          refine zg_X6_202 C hw (zn7 hL (by decide) (by omega)) dX6_bestWater_47 ?_
          refine lv_iload hx hb dX6_bestWater_50 (lv_at hl 6 rfl) ?_
          refine zafter_i C hw (zrunS (rest := []) C hml hl.1 hw (c_X6_tinOfHead l D cy ad m H.size (m (7, 0, 42 + b.toNatClampNeg) 1) (nI k)) zv_X6_205 rfl rfl rfl ⟨Nat.le_of_ble_eq_true rfl, Nat.le_of_ble_eq_true rfl⟩ rfl (Nat.le_of_ble_eq_true rfl) dX6_bestWater_52 ⟨Nat.le_of_ble_eq_true rfl, Nat.le_of_ble_eq_true rfl⟩) (fun r16 m15 H locs h14 hw => ?_)
          obtain ⟨er16, h14⟩ := h14
          rw [h14] at hw
          clear h14 m15
          refine lv_istore (lv' := [(7, .int r16), (0, .ref (ad (0, 0, 0))), (1, .int b), (2, .int x), (3, .ref (ad (7, 0, 42 + b.toNatClampNeg))), (4, .int x4), (5, .int x5), (6, .int (nI k))]) hx hb dX6_bestWater_55 hl (by decide) rfl (fun ls hl => ?_)
          refine lv_aload_n hx hb dX6_bestWater_57 rfl (lv_at hl 4 rfl) ?_
          refine zg_X6_209 C hw (zn7 hL (by decide) (by omega)) dX6_bestWater_58 ?_
          refine lv_iload hx hb dX6_bestWater_61 (lv_at hl 7 rfl) ?_
          refine zafter_i C hw (zrunS (rest := []) C hml hl.1 hw (c_X6_rockOfHead l D cy ad m H.size (m (7, 0, 42 + b.toNatClampNeg) 0) (nI k)) zv_X6_212 rfl rfl rfl ⟨Nat.le_of_ble_eq_true rfl, Nat.le_of_ble_eq_true rfl⟩ rfl (Nat.le_of_ble_eq_true rfl) dX6_bestWater_63 ⟨Nat.le_of_ble_eq_true rfl, Nat.le_of_ble_eq_true rfl⟩) (fun r19 m18 H locs h17 hw => ?_)
          obtain ⟨er19, h17⟩ := h17
          rw [h17] at hw
          clear h17 m18
          refine lv_iload hx hb dX6_bestWater_66 (lv_at hl 0 rfl) ?_
          refine zafter_i C hw (zrunS (rest := []) C hml hl.1 hw (c_X6_gradeOf l D cy ad m H.size r19 r16) zv_X6_215 rfl rfl rfl ⟨Nat.le_of_ble_eq_true rfl, Nat.le_of_ble_eq_true rfl⟩ rfl (Nat.le_of_ble_eq_true rfl) dX6_bestWater_68 ⟨Nat.le_of_ble_eq_true rfl, Nat.le_of_ble_eq_true rfl⟩) (fun r22 m21 H locs h20 hw => ?_)
          obtain ⟨er22, h20⟩ := h20
          rw [h20] at hw
          clear h20 m21
          refine lv_istore (lv' := [(8, .int r22), (7, .int r16), (0, .ref (ad (0, 0, 0))), (1, .int b), (2, .int x), (3, .ref (ad (7, 0, 42 + b.toNatClampNeg))), (4, .int x4), (5, .int x5), (6, .int (nI k))]) hx hb dX6_bestWater_71 hl (by decide) rfl (fun ls hl => ?_)
          refine lv_iload hx hb dX6_bestWater_73 (lv_at hl 1 rfl) ?_
          refine lv_iload_n hx hb dX6_bestWater_75 rfl (lv_at hl 4 rfl) ?_
          refine lv_icmp_lt (tgt := 94) hx hb dX6_bestWater_76 (by decide) (fun c76_23 => ?_) (fun c76_23 => ?_)
          · skip
            rw [er16] at c76_23
            refine lv_iinc (v := (nI (k + 1))) (lv' := [(6, .int (nI (k + 1))), (8, .int r22), (7, .int r16), (0, .ref (ad (0, 0, 0))), (1, .int b), (2, .int x), (3, .ref (ad (7, 0, 42 + b.toNatClampNeg))), (4, .int x4), (5, .int x5)]) hx hb dX6_bestWater_94 hl (k := 8) rfl (nI_1 k) (by decide) rfl (fun ls hl => ?_)
            refine lv_goto (tgt := 39) hx hb dX6_bestWater_97 (by decide) ?_
            exact ih39 _ (by omega) (k + 1) x4 x5 _ _ _ rfl (by omega) (by omega) (q6_bw_a i39_3 i39_1 (by first | exact c76_23 | (rw [er16]; exact c76_23) | (rw [← er16]; exact c76_23))) hw (lv_sub hl [3, 4, 5, 6, 7, 8, 0] rfl)
          · skip
            rw [er16] at c76_23
            refine lv_iload hx hb dX6_bestWater_79 (lv_at hl 0 rfl) ?_
            refine lv_iload hx hb dX6_bestWater_81 (lv_at hl 7 rfl) ?_
            refine lv_icmp_le (tgt := 94) hx hb dX6_bestWater_83 (by decide) (fun c83_24 => ?_) (fun c83_24 => ?_)
            · skip
              rw [er22] at c83_24
              refine lv_iinc (v := (nI (k + 1))) (lv' := [(6, .int (nI (k + 1))), (8, .int r22), (7, .int r16), (0, .ref (ad (0, 0, 0))), (1, .int b), (2, .int x), (3, .ref (ad (7, 0, 42 + b.toNatClampNeg))), (4, .int x4), (5, .int x5)]) hx hb dX6_bestWater_94 hl (k := 8) rfl (nI_1 k) (by decide) rfl (fun ls hl => ?_)
              refine lv_goto (tgt := 39) hx hb dX6_bestWater_97 (by decide) ?_
              exact ih39 _ (by omega) (k + 1) x4 x5 _ _ _ rfl (by omega) (by omega) (q6_bw_c i39_3 i39_1 (by first | exact c76_23 | (rw [er16]; exact c76_23) | (rw [← er16]; exact c76_23)) (er22.trans (by rw [er19, er16]; rfl)) (by first | exact c83_24 | (rw [er22]; exact c83_24) | (rw [← er22]; exact c83_24))) hw (lv_sub hl [3, 4, 5, 6, 7, 8, 0] rfl)
            · skip
              rw [er22] at c83_24
              refine lv_iload hx hb dX6_bestWater_86 (lv_at hl 8 rfl) ?_
              refine lv_istore (lv' := [(4, .int (nI k)), (8, .int r22), (7, .int r16), (0, .ref (ad (0, 0, 0))), (1, .int b), (2, .int x), (3, .ref (ad (7, 0, 42 + b.toNatClampNeg))), (5, .int x5), (6, .int (nI k))]) hx hb dX6_bestWater_88 hl (by decide) rfl (fun ls hl => ?_)
              refine lv_iload hx hb dX6_bestWater_90 (lv_at hl 1 rfl) ?_
              refine lv_istore (lv' := [(5, .int r22), (4, .int (nI k)), (8, .int r22), (7, .int r16), (0, .ref (ad (0, 0, 0))), (1, .int b), (2, .int x), (3, .ref (ad (7, 0, 42 + b.toNatClampNeg))), (6, .int (nI k))]) hx hb dX6_bestWater_92 hl (by decide) rfl (fun ls hl => ?_)
              refine lv_iinc (v := (nI (k + 1))) (lv' := [(6, .int (nI (k + 1))), (5, .int r22), (4, .int (nI k)), (8, .int r22), (7, .int r16), (0, .ref (ad (0, 0, 0))), (1, .int b), (2, .int x), (3, .ref (ad (7, 0, 42 + b.toNatClampNeg)))]) hx hb dX6_bestWater_94 hl (k := 8) rfl (nI_1 k) (by decide) rfl (fun ls hl => ?_)
              refine lv_goto (tgt := 39) hx hb dX6_bestWater_97 (by decide) ?_
              exact ih39 _ (by omega) (k + 1) (nI k) r22 _ _ _ rfl (by omega) (by omega) (q6_bw_b i39_3 i39_1 (by first | exact c76_23 | (rw [er16]; exact c76_23) | (rw [← er16]; exact c76_23)) (er22.trans (by rw [er19, er16]; rfl)) (by first | exact c83_24 | (rw [er22]; exact c83_24) | (rw [← er22]; exact c83_24))) hw (lv_sub hl [5, 6, 7, 8, 2, 1, 0] rfl)
      exact loop39 _ 10 x9 x10 _ _ _ rfl (by omega) (by omega) (by rw [ex9, ex10]; rfl) hw (lv_sub hl [4, 5, 6, 3, 2, 1, 0] rfl)
    · skip
      rw [er7] at c24_8
      refine lv_iconst (v := (-1)) hx hb dX6_bestWater_27 (by decide) ?_
      refine W.widen (k := 2) (n := 12) (by omega) (by omega) ?_
      refine vx_ret ?_
      exact zret_i C hr hlocks hw dX6_bestWater_28 (by subst_vars; exact (if_pos kh1).trans ((if_pos c7_4).trans (if_pos c24_8)))
  · skip
    exact zthrow hst C E9 hnt (hl.1.trans hml.symm) hlocks hw (k := 2) (by decide) rfl rfl zTx_200 dX6_bestWater_10 dX6_bestWater_13 dX6_bestWater_14 dX6_bestWater_16 dX6_bestWater_19 ⟨Nat.le_of_ble_eq_true rfl, Nat.le_of_ble_eq_true rfl, Nat.le_of_ble_eq_true rfl, Nat.le_of_ble_eq_true rfl⟩ ⟨Nat.le_of_ble_eq_true rfl, Nat.le_of_ble_eq_true rfl⟩ ⟨2, by decide, rfl, (if_pos kh1).trans (if_neg c7_4)⟩
