/-! the reference's digest -/
def zj (d : Int64) (x : Int32) : Int64 := d * 31 + x.toInt64
def zfold (f : Nat → Int32) (d : Int64) : Nat → Int64
  | 0 => d
  | n + 1 => zj (zfold f d n) (f n)
def q8_dS (m : ZM) (b : Nat) (d : Int64) : Nat → Int64
  | 0 => d
  | k + 1 => zj (zj (zj (q8_dS m b d k) (m (2, 12 + 20 * 0, 16) (4 * b + k))) (m (2, 13 + 20 * 0, 16) (4 * b + k))) (m (2, 14 + 20 * 0, 16) (4 * b + k))
def q8_dB (m : ZM) (sc : Nat → Nat) (d : Int64) : Nat → Int64
  | 0 => d
  | b + 1 => q8_dS m b (zfold (q8_boxTold m sc b) (q8_dB m sc d b) 12) (sc b)
def q8_dU (m : ZM) (d : Int64) : Nat → Int64
  | 0 => d
  | k + 1 => zfold (q8_budTold m k) (q8_dU m d k) 3
def q8_dg1 (m : ZM) (bc ln : Nat) (sc : Nat → Nat) : Int64 := zfold (q8_cells m bc ln sc) 499 14
def q8_dg2 (m : ZM) (bc ln : Nat) (sc : Nat → Nat) : Int64 := zfold (m (2, 10 + 20 * 0, 24)) (q8_dg1 m bc ln sc) 24
def q8_dg3 (m : ZM) (bc ln : Nat) (sc : Nat → Nat) : Int64 := q8_dB m sc (q8_dg2 m bc ln sc) bc
def q8_dg4 (m : ZM) (bc ln : Nat) (sc : Nat → Nat) : Int64 := zfold (m (2, 20 + 20 * 0, 90)) (q8_dg3 m bc ln sc) (3 * ln)
def q8_digest (m : ZM) (bc ln : Nat) (sc : Nat → Nat) : Int64 := q8_dU m (q8_dg4 m bc ln sc) 3

set_option maxHeartbeats 4000000 in
set_option maxRecDepth 100000 in
theorem c_X8_digest (l : Launch) (D : va_G) (cy : Nat → ClassId) (ad : ZN → Nat) (m : ZM) (sz : Nat) {L : List ZN} (hL : zL L) (hn0 : (2, 70, 14) ∉ L) {bc : Nat} {sc go : Nat → Nat} {hq ln : Nat} (G : gM m bc sc go hq ln) : Met l yX8_digest (zws yX8_digest cX8_digest 5 (some .long)) ({ frames := 2, cells := 14, slots := 196, locals := 45 } : Room) (zPc D cy ad L m sz [.ref (ad (12, 0, 0))]) (zQl (fun r m1 => r = q8_digest (q8_z m) bc ln sc ∧ m1 = q8_z m) D cy ad L sz) 14 196 (zA ad L sz) := by
  refine zopen (Qc := fun sz => zQl (fun r m1 => r = q8_digest (q8_z m) bc ln sc ∧ m1 = q8_z m) D cy ad L sz) RX8 (plainFor_of_name (by decide)) rfl (Nat.le_of_ble_eq_true rfl) ?_
  intro p e s mi below meth c ls C hr hlocks hml hl H locs hw
  obtain ⟨hx, hb, hts, hown, hK, hNw⟩ := id C
  have hl : lv_has ls 5 [(0, .ref (ad (12, 0, 0)))] := hl
  refine lv_aload_n hx hb dX8_digest_0 rfl (lv_at hl 0 rfl) ?_
  refine lv_iconst (v := 0) hx hb dX8_digest_1 (by decide) ?_
  refine zp_X8_23 C hw (zn12 hL) dX8_digest_2 (fun H locs m1 em1 hw => ?_)
  have GM1 : gM m1 bc sc go hq ln := by rw [em1]; exact gM_t G
  obtain ⟨⟨hbc1, lbc1, hbx1, hhd1, -, hhq1, lhq1, hld1⟩, hln1, lln1⟩ := id GM1
  refine lv_ldc2 hx hb hown (hts _ zK_X8_164) dX8_digest_5 ?_
  refine lv_lstore_n (lv' := [(1, .long 499), (0, .ref (ad (12, 0, 0)))]) hx hb dX8_digest_8 rfl hl (by decide) rfl (fun ls hl => ?_)
  refine lv_iconst (v := 0) hx hb dX8_digest_9 (by decide) ?_
  refine lv_istore_n (lv' := [(3, .int 0), (1, .long 499), (0, .ref (ad (12, 0, 0)))]) hx hb dX8_digest_10 rfl hl (by decide) rfl (fun ls hl => ?_)
  have loop11 : ∀ (z : Nat) (k1 : Nat) (y1 : Int64) (H : Heap) (locs : List Loc) (ls : Array Slot), 14 - k1 = z → (k1 ≤ 14) → (y1 = zfold (q8_cells m1 bc ln sc) 499 k1) → zH D cy ad L s.heap H locs m1 → lv_has ls 5 [(0, .ref (ad (12, 0, 0))), (1, .long y1), (3, .int (nI k1))] → W p l e ({ frames := 2, cells := 14, slots := 196, locals := 45 } : Room) s mi [.ref (ad (12, 0, 0))].toArray below meth c H locs k1 (14 * k1) (MQ below (zQl (fun r m1 => r = q8_digest (q8_z m) bc ln sc ∧ m1 = q8_z m) D cy ad L s.heap.size) [.ref (ad (12, 0, 0))].toArray s 14 196 (zA ad L s.heap.size)) (F0 mi 11 ls []) := by
    intro z
    induction z using Nat.strongRecOn with
    | _ z ih11 =>
    intro k1 y1 H locs ls hz11 i11_1 i11_2 hw hl
    refine lv_iload_n hx hb dX8_digest_11 rfl (lv_at hl 2 rfl) ?_
    refine lv_bipush (v := 14) hx hb dX8_digest_12 (by decide) ?_
    refine lv_icmp_ge (tgt := 36) hx hb dX8_digest_14 (by decide) (fun c14_2 => ?_) (fun c14_2 => ?_)
    · skip
      have n3 := zle c14_2 (a := 14) (b := k1) rfl rfl (by omega) (by omega)
      refine W.widen (k := 14) (n := 196) (by omega) (by omega) ?_
      refine lv_iconst (v := 0) hx hb dX8_digest_36 (by decide) ?_
      refine lv_istore_n (lv' := [(3, .int 0), (0, .ref (ad (12, 0, 0))), (1, .long y1)]) hx hb dX8_digest_37 rfl hl (by decide) rfl (fun ls hl => ?_)
      have loop38 : ∀ (z : Nat) (k2 : Nat) (y2 : Int64) (H : Heap) (locs : List Loc) (ls : Array Slot), 24 - k2 = z → (k2 ≤ 24) → (y2 = zfold (m1 (2, 10 + 20 * 0, 24)) (q8_dg1 m1 bc ln sc) k2) → zH D cy ad L s.heap H locs m1 → lv_has ls 5 [(0, .ref (ad (12, 0, 0))), (1, .long y2), (3, .int (nI k2))] → W p l e ({ frames := 2, cells := 14, slots := 196, locals := 45 } : Room) s mi [.ref (ad (12, 0, 0))].toArray below meth c H locs 14 196 (MQ below (zQl (fun r m1 => r = q8_digest (q8_z m) bc ln sc ∧ m1 = q8_z m) D cy ad L s.heap.size) [.ref (ad (12, 0, 0))].toArray s 14 196 (zA ad L s.heap.size)) (F0 mi 38 ls []) := by
        intro z
        induction z using Nat.strongRecOn with
        | _ z ih38 =>
        intro k2 y2 H locs ls hz38 i38_1 i38_2 hw hl
        refine lv_iload_n hx hb dX8_digest_38 rfl (lv_at hl 2 rfl) ?_
        refine lv_bipush (v := 24) hx hb dX8_digest_39 (by decide) ?_
        refine lv_icmp_ge (tgt := 67) hx hb dX8_digest_41 (by decide) (fun c41_4 => ?_) (fun c41_4 => ?_)
        · skip
          have n5 := zle c41_4 (a := 24) (b := k2) rfl rfl (by omega) (by omega)
          refine lv_iconst (v := 0) hx hb dX8_digest_67 (by decide) ?_
          refine lv_istore_n (lv' := [(3, .int 0), (0, .ref (ad (12, 0, 0))), (1, .long y2)]) hx hb dX8_digest_68 rfl hl (by decide) rfl (fun ls hl => ?_)
          have loop69 : ∀ (z : Nat) (b3 : Nat) (y3 : Int64) (H : Heap) (locs : List Loc) (ls : Array Slot), bc - b3 = z → (b3 ≤ bc) → (y3 = q8_dB m1 sc (q8_dg2 m1 bc ln sc) b3) → zH D cy ad L s.heap H locs m1 → lv_has ls 5 [(0, .ref (ad (12, 0, 0))), (1, .long y3), (3, .int (nI b3))] → W p l e ({ frames := 2, cells := 14, slots := 196, locals := 45 } : Room) s mi [.ref (ad (12, 0, 0))].toArray below meth c H locs 14 196 (MQ below (zQl (fun r m1 => r = q8_digest (q8_z m) bc ln sc ∧ m1 = q8_z m) D cy ad L s.heap.size) [.ref (ad (12, 0, 0))].toArray s 14 196 (zA ad L s.heap.size)) (F0 mi 69 ls []) := by
            intro z
            induction z using Nat.strongRecOn with
            | _ z ih69 =>
            intro b3 y3 H locs ls hz69 i69_1 i69_2 hw hl
            refine lv_iload_n hx hb dX8_digest_69 rfl (lv_at hl 2 rfl) ?_
            refine lv_aload_n hx hb dX8_digest_70 rfl (lv_at hl 0 rfl) ?_
            refine zg_X8_10 C hw (zn12 hL) dX8_digest_71 ?_
            refine zg_X8_41 C hw (zn13 hL (by decide)) dX8_digest_74 ?_
            refine ztop hbc1 ?_
            refine lv_icmp_ge (tgt := 196) hx hb dX8_digest_77 (by decide) (fun c77_6 => ?_) (fun c77_6 => ?_)
            · skip
              have n7 := zle c77_6 (a := bc) (b := b3) rfl rfl (by omega) (by omega)
              refine lv_iconst (v := 0) hx hb dX8_digest_196 (by decide) ?_
              refine lv_istore_n (lv' := [(3, .int 0), (0, .ref (ad (12, 0, 0))), (1, .long y3)]) hx hb dX8_digest_197 rfl hl (by decide) rfl (fun ls hl => ?_)
              have loop198 : ∀ (z : Nat) (k6 : Nat) (y6 : Int64) (H : Heap) (locs : List Loc) (ls : Array Slot), 3 * ln - k6 = z → (k6 ≤ 3 * ln) → (y6 = zfold (m1 (2, 20 + 20 * 0, 90)) (q8_dg3 m1 bc ln sc) k6) → zH D cy ad L s.heap H locs m1 → lv_has ls 5 [(0, .ref (ad (12, 0, 0))), (1, .long y6), (3, .int (nI k6))] → W p l e ({ frames := 2, cells := 14, slots := 196, locals := 45 } : Room) s mi [.ref (ad (12, 0, 0))].toArray below meth c H locs 14 196 (MQ below (zQl (fun r m1 => r = q8_digest (q8_z m) bc ln sc ∧ m1 = q8_z m) D cy ad L s.heap.size) [.ref (ad (12, 0, 0))].toArray s 14 196 (zA ad L s.heap.size)) (F0 mi 198 ls []) := by
                intro z
                induction z using Nat.strongRecOn with
                | _ z ih198 =>
                intro k6 y6 H locs ls hz198 i198_1 i198_2 hw hl
                refine lv_iload_n hx hb dX8_digest_198 rfl (lv_at hl 2 rfl) ?_
                refine lv_iconst (v := 3) hx hb dX8_digest_199 (by decide) ?_
                refine lv_aload_n hx hb dX8_digest_200 rfl (lv_at hl 0 rfl) ?_
                refine zg_X8_10 C hw (zn12 hL) dX8_digest_201 ?_
                refine zg_X8_79 C hw (zn13 hL (by decide)) dX8_digest_204 ?_
                refine ztop hln1 ?_
                refine lv_imul hx hb dX8_digest_207 ?_
                refine lv_icmp_ge (tgt := 234) hx hb dX8_digest_208 (by decide) (fun c208_8 => ?_) (fun c208_8 => ?_)
                · skip
                  have n9 := zle c208_8 (a := (3 * ln)) (b := k6) (zmul rfl rfl) rfl (by omega) (by omega)
                  refine lv_iconst (v := 0) hx hb dX8_digest_234 (by decide) ?_
                  refine lv_istore_n (lv' := [(3, .int 0), (0, .ref (ad (12, 0, 0))), (1, .long y6)]) hx hb dX8_digest_235 rfl hl (by decide) rfl (fun ls hl => ?_)
                  have loop236 : ∀ (z : Nat) (k7 : Nat) (y7 : Int64) (H : Heap) (locs : List Loc) (ls : Array Slot), 3 - k7 = z → (k7 ≤ 3) → (y7 = q8_dU m1 (q8_dg4 m1 bc ln sc) k7) → zH D cy ad L s.heap H locs m1 → lv_has ls 5 [(0, .ref (ad (12, 0, 0))), (1, .long y7), (3, .int (nI k7))] → W p l e ({ frames := 2, cells := 14, slots := 196, locals := 45 } : Room) s mi [.ref (ad (12, 0, 0))].toArray below meth c H locs 14 196 (MQ below (zQl (fun r m1 => r = q8_digest (q8_z m) bc ln sc ∧ m1 = q8_z m) D cy ad L s.heap.size) [.ref (ad (12, 0, 0))].toArray s 14 196 (zA ad L s.heap.size)) (F0 mi 236 ls []) := by
                    intro z
                    induction z using Nat.strongRecOn with
                    | _ z ih236 =>
                    intro k7 y7 H locs ls hz236 i236_1 i236_2 hw hl
                    refine lv_iload_n hx hb dX8_digest_236 rfl (lv_at hl 2 rfl) ?_
                    refine lv_iconst (v := 3) hx hb dX8_digest_237 (by decide) ?_
                    refine lv_icmp_ge (tgt := 277) hx hb dX8_digest_238 (by decide) (fun c238_10 => ?_) (fun c238_10 => ?_)
                    · skip
                      have n11 := zle c238_10 (a := 3) (b := k7) rfl rfl (by omega) (by omega)
                      refine lv_lload_n hx hb dX8_digest_277 rfl (lv_at hl 1 rfl) ?_
                      refine W.widen (k := 14) (n := 196) (by omega) (by omega) ?_
                      exact zret_l C hr hlocks hw dX8_digest_278 (by obtain rfl : k7 = 3 := (by omega); subst em1; exact ⟨i236_2, rfl⟩)
                    · skip
                      have n12 := znle c238_10 (a := 3) (b := k7) rfl rfl (by omega) (by omega)
                      refine lv_iconst (v := 0) hx hb dX8_digest_241 (by decide) ?_
                      refine lv_istore (lv' := [(4, .int 0), (0, .ref (ad (12, 0, 0))), (1, .long y7), (3, .int (nI k7))]) hx hb dX8_digest_242 hl (by decide) rfl (fun ls hl => ?_)
                      have loop244 : ∀ (z : Nat) (k8 : Nat) (y8 : Int64) (H : Heap) (locs : List Loc) (ls : Array Slot), 3 - k8 = z → (k8 ≤ 3) → (y8 = zfold (q8_budTold m1 k7) y7 k8) → zH D cy ad L s.heap H locs m1 → lv_has ls 5 [(0, .ref (ad (12, 0, 0))), (1, .long y8), (3, .int (nI k7)), (4, .int (nI k8))] → W p l e ({ frames := 2, cells := 14, slots := 196, locals := 45 } : Room) s mi [.ref (ad (12, 0, 0))].toArray below meth c H locs 14 196 (MQ below (zQl (fun r m1 => r = q8_digest (q8_z m) bc ln sc ∧ m1 = q8_z m) D cy ad L s.heap.size) [.ref (ad (12, 0, 0))].toArray s 14 196 (zA ad L s.heap.size)) (F0 mi 244 ls []) := by
                        intro z
                        induction z using Nat.strongRecOn with
                        | _ z ih244 =>
                        intro k8 y8 H locs ls hz244 i244_1 i244_2 hw hl
                        refine lv_iload hx hb dX8_digest_244 (lv_at hl 3 rfl) ?_
                        refine lv_iconst (v := 3) hx hb dX8_digest_246 (by decide) ?_
                        refine lv_icmp_ge (tgt := 271) hx hb dX8_digest_247 (by decide) (fun c247_13 => ?_) (fun c247_13 => ?_)
                        · skip
                          have n14 := zle c247_13 (a := 3) (b := k8) rfl rfl (by omega) (by omega)
                          refine lv_iinc (v := (nI (k7 + 1))) (lv' := [(3, .int (nI (k7 + 1))), (0, .ref (ad (12, 0, 0))), (1, .long y8), (4, .int (nI k8))]) hx hb dX8_digest_271 hl (k := 2) rfl (nI_1 k7) (by decide) rfl (fun ls hl => ?_)
                          refine lv_goto (tgt := 236) hx hb dX8_digest_274 (by decide) ?_
                          exact ih236 _ (by omega) (k7 + 1) y8 _ _ _ rfl (by omega) (by rw [i244_2, show k8 = 3 by omega, i236_2]; rfl) hw (lv_sub hl [1, 2, 0] rfl)
                        · skip
                          have n15 := znle c247_13 (a := 3) (b := k8) rfl rfl (by omega) (by omega)
                          refine lv_lload_n hx hb dX8_digest_250 rfl (lv_at hl 1 rfl) ?_
                          refine lv_ldc2 hx hb hown (hts _ zK_X8_166) dX8_digest_251 ?_
                          refine lv_lmul hx hb dX8_digest_254 ?_
                          refine lv_aload_n hx hb dX8_digest_255 rfl (lv_at hl 0 rfl) ?_
                          refine lv_iload_n hx hb dX8_digest_256 rfl (lv_at hl 2 rfl) ?_
                          refine lv_iload hx hb dX8_digest_257 (lv_at hl 3 rfl) ?_
                          refine zafter_i C hw (zrunV (rest := [.long (y8 * 31)]) C hml hl.1 hw (zn12 hL) rfl rfl (c_X8_buddleTold l D cy ad m1 H.size hL k7 k8 (by omega) (by omega)) zv_X8_136 rfl rfl rfl ⟨Nat.le_of_ble_eq_true rfl, Nat.le_of_ble_eq_true rfl⟩ rfl (Nat.le_of_ble_eq_true rfl) dX8_digest_259 ⟨Nat.le_of_ble_eq_true rfl, Nat.le_of_ble_eq_true rfl⟩) (fun r18 m17 H locs h16 hw => ?_)
                          obtain ⟨er18, h16⟩ := h16
                          rw [h16] at hw
                          clear h16 m17
                          refine lv_i2l hx hb dX8_digest_262 rfl ?_
                          refine lv_ladd hx hb dX8_digest_263 ?_
                          refine lv_topl (fun x19 ex19 => ?_)
                          refine lv_lstore_n (lv' := [(1, .long x19), (0, .ref (ad (12, 0, 0))), (3, .int (nI k7)), (4, .int (nI k8))]) hx hb dX8_digest_264 rfl hl (by decide) rfl (fun ls hl => ?_)
                          refine lv_iinc (v := (nI (k8 + 1))) (lv' := [(4, .int (nI (k8 + 1))), (1, .long x19), (0, .ref (ad (12, 0, 0))), (3, .int (nI k7))]) hx hb dX8_digest_265 hl (k := 3) rfl (nI_1 k8) (by decide) rfl (fun ls hl => ?_)
                          refine lv_goto (tgt := 244) hx hb dX8_digest_268 (by decide) ?_
                          exact ih244 _ (by omega) (k8 + 1) x19 _ _ _ rfl (by omega) (by rw [ex19, er18, i244_2]; rfl) hw (lv_sub hl [2, 1, 3, 0] rfl)
                      exact loop244 _ 0 y7 _ _ _ rfl (by omega) rfl hw (lv_sub hl [1, 2, 3, 0] rfl)
                  exact loop236 _ 0 y6 _ _ _ rfl (by omega) (by rw [i198_2, show k6 = 3 * ln by omega]; rfl) hw (lv_sub hl [1, 2, 0] rfl)
                · skip
                  have n20 := znle c208_8 (a := (3 * ln)) (b := k6) (zmul rfl rfl) rfl (by omega) (by omega)
                  refine lv_lload_n hx hb dX8_digest_211 rfl (lv_at hl 1 rfl) ?_
                  refine lv_ldc2 hx hb hown (hts _ zK_X8_166) dX8_digest_212 ?_
                  refine lv_lmul hx hb dX8_digest_215 ?_
                  refine lv_aload_n hx hb dX8_digest_216 rfl (lv_at hl 0 rfl) ?_
                  refine zg_X8_10 C hw (zn12 hL) dX8_digest_217 ?_
                  refine zg_X8_86 C hw (zn13 hL (by decide)) dX8_digest_220 ?_
                  refine lv_iload_n hx hb dX8_digest_223 rfl (lv_at hl 2 rfl) ?_
                  refine zaldN C hw (zq20 (w := 0) hL (by decide)) k6 (by omega) rfl (by decide) dX8_digest_224 ?_
                  refine lv_i2l hx hb dX8_digest_225 rfl ?_
                  refine lv_ladd hx hb dX8_digest_226 ?_
                  refine lv_topl (fun x21 ex21 => ?_)
                  refine lv_lstore_n (lv' := [(1, .long x21), (0, .ref (ad (12, 0, 0))), (3, .int (nI k6))]) hx hb dX8_digest_227 rfl hl (by decide) rfl (fun ls hl => ?_)
                  refine lv_iinc (v := (nI (k6 + 1))) (lv' := [(3, .int (nI (k6 + 1))), (1, .long x21), (0, .ref (ad (12, 0, 0)))]) hx hb dX8_digest_228 hl (k := 2) rfl (nI_1 k6) (by decide) rfl (fun ls hl => ?_)
                  refine lv_goto (tgt := 198) hx hb dX8_digest_231 (by decide) ?_
                  exact ih198 _ (by omega) (k6 + 1) x21 _ _ _ rfl (by omega) (by rw [ex21, i198_2]; rfl) hw (lv_sub hl [2, 1, 0] rfl)
              exact loop198 _ 0 y3 _ _ _ rfl (by omega) (by rw [i69_2, show b3 = bc by omega]; rfl) hw (lv_sub hl [1, 2, 0] rfl)
            · skip
              have n22 := znle c77_6 (a := bc) (b := b3) rfl rfl (by omega) (by omega)
              refine lv_iconst (v := 0) hx hb dX8_digest_80 (by decide) ?_
              refine lv_istore (lv' := [(4, .int 0), (0, .ref (ad (12, 0, 0))), (1, .long y3), (3, .int (nI b3))]) hx hb dX8_digest_81 hl (by decide) rfl (fun ls hl => ?_)
              have loop83 : ∀ (z : Nat) (k4 : Nat) (y4 : Int64) (H : Heap) (locs : List Loc) (ls : Array Slot), 12 - k4 = z → (k4 ≤ 12) → (y4 = zfold (q8_boxTold m1 sc b3) y3 k4) → zH D cy ad L s.heap H locs m1 → lv_has ls 5 [(0, .ref (ad (12, 0, 0))), (1, .long y4), (3, .int (nI b3)), (4, .int (nI k4))] → W p l e ({ frames := 2, cells := 14, slots := 196, locals := 45 } : Room) s mi [.ref (ad (12, 0, 0))].toArray below meth c H locs 14 196 (MQ below (zQl (fun r m1 => r = q8_digest (q8_z m) bc ln sc ∧ m1 = q8_z m) D cy ad L s.heap.size) [.ref (ad (12, 0, 0))].toArray s 14 196 (zA ad L s.heap.size)) (F0 mi 83 ls []) := by
                intro z
                induction z using Nat.strongRecOn with
                | _ z ih83 =>
                intro k4 y4 H locs ls hz83 i83_1 i83_2 hw hl
                have lsc := (hbx1 b3 (by omega)).2.1
                refine lv_iload hx hb dX8_digest_83 (lv_at hl 3 rfl) ?_
                refine lv_bipush (v := 12) hx hb dX8_digest_85 (by decide) ?_
                refine lv_icmp_ge (tgt := 111) hx hb dX8_digest_87 (by decide) (fun c87_23 => ?_) (fun c87_23 => ?_)
                · skip
                  have n24 := zle c87_23 (a := 12) (b := k4) rfl rfl (by omega) (by omega)
                  refine lv_iconst (v := 4) hx hb dX8_digest_111 (by decide) ?_
                  refine lv_iload_n hx hb dX8_digest_112 rfl (lv_at hl 2 rfl) ?_
                  refine lv_imul hx hb dX8_digest_113 ?_
                  refine ztop (y := nI (4 * b3)) (zmul rfl rfl) ?_
                  refine lv_istore (lv' := [(4, .int (nI (4 * b3))), (0, .ref (ad (12, 0, 0))), (1, .long y4), (3, .int (nI b3))]) hx hb dX8_digest_114 hl (by decide) rfl (fun ls hl => ?_)
                  have loop116 : ∀ (z : Nat) (k5 : Nat) (y5 : Int64) (H : Heap) (locs : List Loc) (ls : Array Slot), sc b3 - k5 = z → (k5 ≤ sc b3) → (y5 = q8_dS m1 b3 y4 k5) → zH D cy ad L s.heap H locs m1 → lv_has ls 5 [(0, .ref (ad (12, 0, 0))), (1, .long y5), (3, .int (nI b3)), (4, .int (nI (4 * b3 + k5)))] → W p l e ({ frames := 2, cells := 14, slots := 196, locals := 45 } : Room) s mi [.ref (ad (12, 0, 0))].toArray below meth c H locs 14 196 (MQ below (zQl (fun r m1 => r = q8_digest (q8_z m) bc ln sc ∧ m1 = q8_z m) D cy ad L s.heap.size) [.ref (ad (12, 0, 0))].toArray s 14 196 (zA ad L s.heap.size)) (F0 mi 116 ls []) := by
                    intro z
                    induction z using Nat.strongRecOn with
                    | _ z ih116 =>
                    intro k5 y5 H locs ls hz116 i116_1 i116_2 hw hl
                    refine lv_iload hx hb dX8_digest_116 (lv_at hl 3 rfl) ?_
                    refine lv_iconst (v := 4) hx hb dX8_digest_118 (by decide) ?_
                    refine lv_iload_n hx hb dX8_digest_119 rfl (lv_at hl 2 rfl) ?_
                    refine lv_imul hx hb dX8_digest_120 ?_
                    refine lv_aload_n hx hb dX8_digest_121 rfl (lv_at hl 0 rfl) ?_
                    refine zg_X8_10 C hw (zn12 hL) dX8_digest_122 ?_
                    refine zg_X8_54 C hw (zn13 hL (by decide)) dX8_digest_125 ?_
                    refine lv_iload_n hx hb dX8_digest_128 rfl (lv_at hl 2 rfl) ?_
                    refine zaldN C hw (zq11 (w := 0) hL (by decide)) b3 (by omega) rfl (by decide) dX8_digest_129 ?_
                    refine ztop (hbx1 b3 (by omega)).1 ?_
                    refine lv_iadd hx hb dX8_digest_130 ?_
                    refine lv_icmp_ge (tgt := 190) hx hb dX8_digest_131 (by decide) (fun c131_25 => ?_) (fun c131_25 => ?_)
                    · skip
                      have n26 := zle c131_25 (a := ((4 * b3) + (sc b3))) (b := (4 * b3 + k5)) (zadd (zmul rfl rfl) rfl) rfl (by omega) (by omega)
                      refine lv_iinc (v := (nI (b3 + 1))) (lv' := [(3, .int (nI (b3 + 1))), (0, .ref (ad (12, 0, 0))), (1, .long y5), (4, .int (nI (4 * b3 + k5)))]) hx hb dX8_digest_190 hl (k := 2) rfl (nI_1 b3) (by decide) rfl (fun ls hl => ?_)
                      refine lv_goto (tgt := 69) hx hb dX8_digest_193 (by decide) ?_
                      exact ih69 _ (by omega) (b3 + 1) y5 _ _ _ rfl (by omega) (by rw [i116_2, show k5 = sc b3 by omega, i83_2, show k4 = 12 by omega, i69_2]; rfl) hw (lv_sub hl [1, 2, 0] rfl)
                    · skip
                      have n27 := znle c131_25 (a := ((4 * b3) + (sc b3))) (b := (4 * b3 + k5)) (zadd (zmul rfl rfl) rfl) rfl (by omega) (by omega)
                      refine lv_lload_n hx hb dX8_digest_134 rfl (lv_at hl 1 rfl) ?_
                      refine lv_ldc2 hx hb hown (hts _ zK_X8_166) dX8_digest_135 ?_
                      refine lv_lmul hx hb dX8_digest_138 ?_
                      refine lv_aload_n hx hb dX8_digest_139 rfl (lv_at hl 0 rfl) ?_
                      refine zg_X8_10 C hw (zn12 hL) dX8_digest_140 ?_
                      refine zg_X8_57 C hw (zn13 hL (by decide)) dX8_digest_143 ?_
                      refine lv_iload hx hb dX8_digest_146 (lv_at hl 3 rfl) ?_
                      refine zaldN C hw (zq12 (w := 0) hL (by decide)) (4 * b3 + k5) (by omega) rfl (by decide) dX8_digest_148 ?_
                      refine lv_i2l hx hb dX8_digest_149 rfl ?_
                      refine lv_ladd hx hb dX8_digest_150 ?_
                      refine lv_ldc2 hx hb hown (hts _ zK_X8_166) dX8_digest_151 ?_
                      refine lv_lmul hx hb dX8_digest_154 ?_
                      refine lv_aload_n hx hb dX8_digest_155 rfl (lv_at hl 0 rfl) ?_
                      refine zg_X8_10 C hw (zn12 hL) dX8_digest_156 ?_
                      refine zg_X8_60 C hw (zn13 hL (by decide)) dX8_digest_159 ?_
                      refine lv_iload hx hb dX8_digest_162 (lv_at hl 3 rfl) ?_
                      refine zaldN C hw (zq13 (w := 0) hL (by decide)) (4 * b3 + k5) (by omega) rfl (by decide) dX8_digest_164 ?_
                      refine lv_i2l hx hb dX8_digest_165 rfl ?_
                      refine lv_ladd hx hb dX8_digest_166 ?_
                      refine lv_ldc2 hx hb hown (hts _ zK_X8_166) dX8_digest_167 ?_
                      refine lv_lmul hx hb dX8_digest_170 ?_
                      refine lv_aload_n hx hb dX8_digest_171 rfl (lv_at hl 0 rfl) ?_
                      refine zg_X8_10 C hw (zn12 hL) dX8_digest_172 ?_
                      refine zg_X8_63 C hw (zn13 hL (by decide)) dX8_digest_175 ?_
                      refine lv_iload hx hb dX8_digest_178 (lv_at hl 3 rfl) ?_
                      refine zaldN C hw (zq14 (w := 0) hL (by decide)) (4 * b3 + k5) (by omega) rfl (by decide) dX8_digest_180 ?_
                      refine lv_i2l hx hb dX8_digest_181 rfl ?_
                      refine lv_ladd hx hb dX8_digest_182 ?_
                      refine lv_topl (fun x28 ex28 => ?_)
                      refine lv_lstore_n (lv' := [(1, .long x28), (0, .ref (ad (12, 0, 0))), (3, .int (nI b3)), (4, .int (nI (4 * b3 + k5)))]) hx hb dX8_digest_183 rfl hl (by decide) rfl (fun ls hl => ?_)
                      refine lv_iinc (v := (nI ((4 * b3 + k5) + 1))) (lv' := [(4, .int (nI ((4 * b3 + k5) + 1))), (1, .long x28), (0, .ref (ad (12, 0, 0))), (3, .int (nI b3))]) hx hb dX8_digest_184 hl (k := 3) rfl (nI_1 (4 * b3 + k5)) (by decide) rfl (fun ls hl => ?_)
                      refine lv_goto (tgt := 116) hx hb dX8_digest_187 (by decide) ?_
                      exact ih116 _ (by omega) (k5 + 1) x28 _ _ _ rfl (by omega) (by rw [ex28, i116_2]; rfl) hw (lv_sub hl [2, 1, 3, 0] rfl)
                  exact loop116 _ 0 y4 _ _ _ rfl (by omega) rfl hw (lv_sub hl [1, 2, 3, 0] rfl)
                · skip
                  have n29 := znle c87_23 (a := 12) (b := k4) rfl rfl (by omega) (by omega)
                  refine lv_lload_n hx hb dX8_digest_90 rfl (lv_at hl 1 rfl) ?_
                  refine lv_ldc2 hx hb hown (hts _ zK_X8_166) dX8_digest_91 ?_
                  refine lv_lmul hx hb dX8_digest_94 ?_
                  refine lv_aload_n hx hb dX8_digest_95 rfl (lv_at hl 0 rfl) ?_
                  refine lv_iload_n hx hb dX8_digest_96 rfl (lv_at hl 2 rfl) ?_
                  refine lv_iload hx hb dX8_digest_97 (lv_at hl 3 rfl) ?_
                  refine zafter_i C hw (zrunV (rest := [.long (y4 * 31)]) C hml hl.1 hw (zn12 hL) rfl rfl (c_X8_boxTold l D cy ad m1 H.size hL GM1.1 b3 k4 (by omega) (by omega)) zv_X8_75 rfl rfl rfl ⟨Nat.le_of_ble_eq_true rfl, Nat.le_of_ble_eq_true rfl⟩ rfl (Nat.le_of_ble_eq_true rfl) dX8_digest_99 ⟨Nat.le_of_ble_eq_true rfl, Nat.le_of_ble_eq_true rfl⟩) (fun r32 m31 H locs h30 hw => ?_)
                  obtain ⟨er32, h30⟩ := h30
                  rw [h30] at hw
                  clear h30 m31
                  refine lv_i2l hx hb dX8_digest_102 rfl ?_
                  refine lv_ladd hx hb dX8_digest_103 ?_
                  refine lv_topl (fun x33 ex33 => ?_)
                  refine lv_lstore_n (lv' := [(1, .long x33), (0, .ref (ad (12, 0, 0))), (3, .int (nI b3)), (4, .int (nI k4))]) hx hb dX8_digest_104 rfl hl (by decide) rfl (fun ls hl => ?_)
                  refine lv_iinc (v := (nI (k4 + 1))) (lv' := [(4, .int (nI (k4 + 1))), (1, .long x33), (0, .ref (ad (12, 0, 0))), (3, .int (nI b3))]) hx hb dX8_digest_105 hl (k := 3) rfl (nI_1 k4) (by decide) rfl (fun ls hl => ?_)
                  refine lv_goto (tgt := 83) hx hb dX8_digest_108 (by decide) ?_
                  exact ih83 _ (by omega) (k4 + 1) x33 _ _ _ rfl (by omega) (by rw [ex33, er32, i83_2]; rfl) hw (lv_sub hl [2, 1, 3, 0] rfl)
              exact loop83 _ 0 y3 _ _ _ rfl (by omega) rfl hw (lv_sub hl [1, 2, 3, 0] rfl)
          exact loop69 _ 0 y2 _ _ _ rfl (by omega) (by rw [i38_2, show k2 = 24 by omega]; rfl) hw (lv_sub hl [1, 2, 0] rfl)
        · skip
          have n34 := znle c41_4 (a := 24) (b := k2) rfl rfl (by omega) (by omega)
          refine lv_lload_n hx hb dX8_digest_44 rfl (lv_at hl 1 rfl) ?_
          refine lv_ldc2 hx hb hown (hts _ zK_X8_166) dX8_digest_45 ?_
          refine lv_lmul hx hb dX8_digest_48 ?_
          refine lv_aload_n hx hb dX8_digest_49 rfl (lv_at hl 0 rfl) ?_
          refine zg_X8_10 C hw (zn12 hL) dX8_digest_50 ?_
          refine zg_X8_35 C hw (zn13 hL (by decide)) dX8_digest_53 ?_
          refine lv_iload_n hx hb dX8_digest_56 rfl (lv_at hl 2 rfl) ?_
          refine zaldN C hw (zq10 (w := 0) hL (by decide)) k2 (by omega) rfl (by decide) dX8_digest_57 ?_
          refine lv_i2l hx hb dX8_digest_58 rfl ?_
          refine lv_ladd hx hb dX8_digest_59 ?_
          refine lv_topl (fun x35 ex35 => ?_)
          refine lv_lstore_n (lv' := [(1, .long x35), (0, .ref (ad (12, 0, 0))), (3, .int (nI k2))]) hx hb dX8_digest_60 rfl hl (by decide) rfl (fun ls hl => ?_)
          refine lv_iinc (v := (nI (k2 + 1))) (lv' := [(3, .int (nI (k2 + 1))), (1, .long x35), (0, .ref (ad (12, 0, 0)))]) hx hb dX8_digest_61 hl (k := 2) rfl (nI_1 k2) (by decide) rfl (fun ls hl => ?_)
          refine lv_goto (tgt := 38) hx hb dX8_digest_64 (by decide) ?_
          exact ih38 _ (by omega) (k2 + 1) x35 _ _ _ rfl (by omega) (by rw [ex35, i38_2]; rfl) hw (lv_sub hl [2, 1, 0] rfl)
      exact loop38 _ 0 y1 _ _ _ rfl (by omega) (by rw [i11_2, show k1 = 14 by omega]; rfl) hw (lv_sub hl [1, 2, 0] rfl)
    · skip
      have n36 := znle c14_2 (a := 14) (b := k1) rfl rfl (by omega) (by omega)
      refine lv_lload_n hx hb dX8_digest_17 rfl (lv_at hl 1 rfl) ?_
      refine lv_ldc2 hx hb hown (hts _ zK_X8_166) dX8_digest_18 ?_
      refine lv_lmul hx hb dX8_digest_21 ?_
      refine lv_aload_n hx hb dX8_digest_22 rfl (lv_at hl 0 rfl) ?_
      refine lv_iload_n hx hb dX8_digest_23 rfl (lv_at hl 2 rfl) ?_
      refine zafter_iC C hw (zrunV (rest := [.long (y1 * 31)]) C hml hl.1 hw (zn12 hL) rfl rfl (c_X8_counted l D cy ad m1 H.size hL hn0 GM1 k1 (by omega)) zv_X8_124 rfl rfl rfl ⟨Nat.le_of_ble_eq_true rfl, Nat.le_of_ble_eq_true rfl⟩ rfl (Nat.le_of_ble_eq_true rfl) dX8_digest_24 ⟨by show k1 + 1 ≤ 14; omega, by show 14 * k1 + 14 ≤ 196; omega⟩) (fun r39 m38 H locs h37 hw => ?_)
      obtain ⟨er39, h37⟩ := h37
      rw [h37] at hw
      clear h37 m38
      refine lv_i2l hx hb dX8_digest_27 rfl ?_
      refine lv_ladd hx hb dX8_digest_28 ?_
      refine lv_topl (fun x40 ex40 => ?_)
      refine lv_lstore_n (lv' := [(1, .long x40), (0, .ref (ad (12, 0, 0))), (3, .int (nI k1))]) hx hb dX8_digest_29 rfl hl (by decide) rfl (fun ls hl => ?_)
      refine lv_iinc (v := (nI (k1 + 1))) (lv' := [(3, .int (nI (k1 + 1))), (1, .long x40), (0, .ref (ad (12, 0, 0)))]) hx hb dX8_digest_30 hl (k := 2) rfl (nI_1 k1) (by decide) rfl (fun ls hl => ?_)
      refine lv_goto (tgt := 11) hx hb dX8_digest_33 (by decide) ?_
      exact ih11 _ (by omega) (k1 + 1) x40 _ _ _ rfl (by omega) (by rw [ex40, er39, i11_2]; rfl) hw (lv_sub hl [2, 1, 0] rfl)
  exact loop11 _ 0 499 _ _ _ rfl (by omega) rfl hw (lv_sub hl [2, 1, 0] rfl)
