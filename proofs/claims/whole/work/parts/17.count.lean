/-! new arrays of ints, calls that make cells -/
theorem zu_ne {m : ZM} {n k : ZN} {w : Nat → Int32} (h : k ≠ n) : zu m n w k = m k := by
  unfold zu
  rw [if_neg h]
theorem zu_eq {m : ZM} {n : ZN} {w : Nat → Int32} : zu m n w n = w := by
  unfold zu
  rw [if_pos rfl]
theorem zs_at {m : ZM} {n : ZN} {j : Nat} {x : Int32} : zs m n j x n = upd (m n) j x := zu_eq
/-- a name of an array that is made on the way -/
def ztmp (n : ZN) : Prop := n.1 = 2 ∧ (n.2.2 = 14 ∨ n.2 = (71, 2))
theorem zc_ad {cy : Nat → ClassId} {ad ad1 : ZN → Nat} {n0 : ZN} (hn : ztmp n0) (h : ∀ k, k ≠ n0 → ad1 k = ad k) (n : ZN) (w : Nat → Int32) : zc cy ad1 n w = zc cy ad n w := by
  have e : ∀ k a b, (k ≠ 2 ∨ (b ≠ 14 ∧ (b ≠ 2 ∨ a = 60))) → ad1 (k, a, b) = ad (k, a, b) := by
    intro k a b hk
    refine h _ (fun q => ?_)
    obtain ⟨k0, a0, b0⟩ := n0
    injection q with q1 q2
    injection q2 with q2 q3
    obtain ⟨h1, h2⟩ := hn
    have h1 : k0 = 2 := h1
    rcases h2 with h2 | h2
    · have h2 : b0 = 14 := h2
      omega
    · injection h2 with h3 h4
      have h3 : a0 = 71 := h3
      have h4 : b0 = 2 := h4
      omega
  obtain ⟨k, a, b⟩ := n
  unfold zc
  dsimp only
  split <;> simp [e]
theorem zw_ad {cy : Nat → ClassId} {ad ad1 : ZN → Nat} {L : List ZN} {m m1 : ZM} {n0 : ZN} (hn : ztmp n0) (hL : n0 ∉ L) (h : ∀ k, k ≠ n0 → ad1 k = ad k) (hm : ∀ k, k ≠ n0 → m1 k = m k) : zw cy ad1 L m1 = zw cy ad L m := by
  unfold zw
  refine List.map_congr_left (fun n hn1 => ?_)
  have hne : n ≠ n0 := fun q => hL (q ▸ hn1)
  rw [h n hne, hm n hne, zc_ad hn h]
theorem zH_drop {D : va_G} {cy : Nat → ClassId} {ad ad1 : ZN → Nat} {L : List ZN} {H0 H : Heap} {locs : List Loc} {m m1 : ZM} {n0 : ZN} (hn : ztmp n0) (hL : n0 ∉ L) (h : ∀ k, k ≠ n0 → ad1 k = ad k) (hf : H0.size ≤ ad1 n0) (hm : ∀ k, k ≠ n0 → m1 k = m k) (hw : zH D cy ad1 (L ++ [n0]) H0 H locs m1) : zH D cy ad L H0 H locs m := by
  obtain ⟨hP, hD, hS⟩ := hw
  have e1 : zw cy ad1 (L ++ [n0]) m1 = zw cy ad L m ++ zw cy ad1 [n0] m1 := by
    rw [← zw_ad hn hL h hm]
    exact List.map_append
  rw [e1] at hP hD
  have get : ∀ (k : Nat) (q : Nat × va_E), (zw cy ad L m)[k]? = some q → (zw cy ad L m ++ zw cy ad1 [n0] m1)[k]? = some q := fun k q hq => by
    rw [List.getElem?_append_left (List.getElem?_eq_some_iff.mp hq).1]; exact hq
  have sub : ∀ q, zA ad1 (L ++ [n0]) H0.size q → zA ad L H0.size q := by
    intro q hq
    rcases hq with ⟨n, h1, h2⟩ | h1
    · rcases List.mem_append.mp h1 with h3 | h3
      · exact Or.inl ⟨n, h3, h2.trans (h n (fun z => hL (z ▸ h3)))⟩
      · rw [List.mem_singleton.mp h3] at h2
        exact Or.inr (by rw [h2]; exact hf)
    · exact Or.inr h1
  refine ⟨fun k q hq => hP k q (get k q hq), ⟨fun i j p q hi hj e => hD.1 i j p q (get i p hi) (get j q hj) e, fun k q hq => sub _ (hD.2 k q (get k q hq))⟩, hS.1, fun q h1 h2 => hS.2.1 q h1 (fun z => h2 (sub q z)), fun l hl => sub _ (hS.2.2 l hl)⟩
section ZN9
variable {p : Program} {l : Launch} {e : Env} {R : Room} {s : State} {mi : MethodId} {args : Array Value} {below : List Frame} {meth : Method} {c : Code} {H : Heap} {locs : List Loc} {cells slots : Nat} {Q : State → Prop}
variable {cc : ByteArray} {own : String} {pc : Nat} {ls : Array Slot} {rest : List Value} {D : va_G} {cy : Nat → ClassId} {ad : ZN → Nat} {L : List ZN} {m : ZM}
theorem znewa {id len : Nat} (C : zX p s mi args c cc own D cy) (hw : zH D cy ad L s.heap H locs m) (hn0 : (2, id, len) ∉ L) (ht : len = 14 ∨ (id, len) = (71, 2)) {n : Int32} (hn : n = nI len) (hlen : len < 2 ^ 20) (harr : Cond.arrayClass .int ∈ wsL_law) (hcells : cells + 1 ≤ R.cells) (hslots : slots + len ≤ R.slots) (hdg : decode cc pc = .ok (.newarray .int, 2))
    (kk : ∀ (ad1 : ZN → Nat) (H1 : Heap) (m1 : ZM), m1 = zu m (2, id, len) (fun _ => 0) → (∀ k, k ≠ (2, id, len) → ad1 k = ad k) → s.heap.size ≤ ad1 (2, id, len) → zH D cy ad1 (L ++ [(2, id, len)]) s.heap H1 locs m1 →
      W p l e R s mi args below meth c H1 locs (cells + 1) (slots + len) Q (F0 mi (pc + 2) ls (.ref (ad1 (2, id, len)) :: rest))) : W p l e R s mi args below meth c H locs cells slots Q (F0 mi pc ls (.int n :: rest)) := by
  obtain ⟨hx, hb, hts, hown, hK, hNw⟩ := C
  have hn9 : ¬ n < 0 := by rw [hn]; exact nI_pos (by omega)
  refine va_newa (atype := .int) (ty := .int) (N' := len) (a0 := (len, .inl (fun _ => 0))) hx hb (hts _ harr) rfl hK hw.1 hw.2.1 hw.2.2 (fun q h => Or.inr h) (fun cA => rfl) hn9 (by rw [hn]; exact nI_clamp (by omega)) (by show len * 4 ≤ _; omega) hcells hslots hdg (fun q cA H1 hK1 hP hD hS => ?_)
  have hcA : cA = cy 0 := by
    have h1 := (hK1.2 6 (cA, .int) rfl).2
    have h2 := (hK1.2 0 (cy 0, .int) rfl).2
    exact Option.some.inj (Eq.trans (Eq.symm (show s.vm.findClass _ = some cA from h1)) (show s.vm.findClass _ = some (cy 0) from h2))
  subst hcA
  have ht' : ztmp (2, id, len) := ⟨rfl, ht⟩
  obtain ⟨ad1, had⟩ : ∃ f : ZN → Nat, f = fun k => if k = (2, id, len) then q else ad k := ⟨_, rfl⟩
  have h1 : ∀ k, k ≠ (2, id, len) → ad1 k = ad k := fun k hk => by rw [had]; exact if_neg hk
  have h2 : ad1 (2, id, len) = q := by rw [had]; exact if_pos rfl
  have hlast : (zw cy ad L m ++ [(q, (.inl (cy 0, len, .inl (fun _ => 0)) : va_E))])[(zw cy ad L m).length]? = some (q, .inl (cy 0, len, .inl (fun _ => 0))) := by
    rw [List.getElem?_append_right (Nat.le_refl _), Nat.sub_self]; rfl
  have hfresh : s.heap.size ≤ q := by
    rcases hD.2 _ _ hlast with ⟨n1, g1, g2⟩ | g
    · exfalso
      obtain ⟨k1, -, g3⟩ := zw_get (cy := cy) (ad := ad) (m := m) g1
      have g4 := (List.getElem?_eq_some_iff.mp g3).1
      have := hD.1 k1 (zw cy ad L m).length _ _ (by rw [List.getElem?_append_left g4]; exact g3) hlast g2.symm
      omega
    · exact g
  have e1 : zw cy ad L m ++ [(q, (.inl (cy 0, len, .inl (fun _ => 0)) : va_E))] = zw cy ad1 (L ++ [(2, id, len)]) (zu m (2, id, len) (fun _ => 0)) := by
    rw [← zw_ad ht' hn0 h1 (m1 := zu m (2, id, len) (fun _ => 0)) (fun k hk => zu_ne hk)]
    unfold zw
    rw [List.map_append]
    congr 1
    show _ = [(ad1 (2, id, len), _)]
    rw [h2, zu_eq]
    rfl
  rw [e1] at hP hD
  have mono : ∀ x, zA ad L s.heap.size x → zA ad1 (L ++ [(2, id, len)]) s.heap.size x := by
    intro x hx
    rcases hx with ⟨n1, g1, g2⟩ | g
    · exact Or.inl ⟨n1, List.mem_append_left _ g1, g2.trans (h1 n1 (fun z => hn0 (z ▸ g1))).symm⟩
    · exact Or.inr g
  rw [← h2]
  refine kk ad1 H1 _ rfl h1 (by rw [h2]; exact hfresh) ⟨hP, hD.weaken (fun _ x _ h => mono x.1 h), hS.1, fun x g1 g2 => hS.2.1 x g1 (fun z => g2 (mono x z)), fun x hx => mono _ (hS.2.2 x hx)⟩
variable {mc ms : Nat} {st : List Value} {aa : Array Value}
theorem zafter_iC {post : Int32 → ZM → Prop} (C : zX p s mi args c cc own D cy) (hw : zH D cy ad L s.heap H locs m) (hr : va_Run p l e R s mi args below meth c H locs cells slots mc ms (F0 mi pc ls st) rest (zQi post D cy ad L H.size aa) (zA ad L H.size))
    (kk : ∀ (r : Int32) (m1 : ZM) (H1 : Heap) (locs1 : List Loc), post r m1 → zH D cy ad L s.heap H1 locs1 m1 → W p l e R s mi args below meth c H1 locs1 (cells + mc) (slots + ms) Q (F0 mi (pc + 3) ls (.int r :: rest))) : W p l e R s mi args below meth c H locs cells slots Q (F0 mi pc ls st) :=
  va_calli hr hw.2.2 (zhA hw).1 (zhA hw).2 (fun r u t H1 locs1 ht _ hpo hB _ _ hS => kk r u H1 locs1 hpo (zback C hw ht hB hS))
end ZN9
/-! what the reference counts -/
theorem q_inHop_c {m m1 : ZM} {w n : Nat} (h : m1 (2, 20 + 20 * w, 90) = m (2, 20 + 20 * w, 90)) : q_inHop m1 w n = q_inHop m w n := by unfold q_inHop q_pair; rw [h]
theorem q8_tinIn_c {m m1 : ZM} {n : Nat} (h : m1 (2, 19 + 20 * 0, 24) = m (2, 19 + 20 * 0, 24)) : q8_tinIn m1 n = q8_tinIn m n := by unfold q8_tinIn; rw [h]
def q8_cells (m : ZM) (bc ln : Nat) (sc : Nat → Nat) : Nat → Int32 :=
  upd (upd (upd (upd (upd (upd (upd (upd (upd (upd (upd (upd (upd (upd (fun _ => 0) 0 (m (13, 0, 0) 0)) 1 (m (13, 0, 0) 1)) 2 (m (13, 0, 0) 2)) 3 (m (13, 0, 0) 4)) 4 (m (13, 0, 0) 14)) 5 (q_inHop m 0 ln)) 6 (q_load7 m 0 sc bc)) 7 (m (2, 60, 2) 0)) 8 (m (2, 60, 2) 1)) 9 (m (13, 0, 0) 17)) 10 (m (12, 0, 0) 5)) 11 (m (12, 0, 0) 4)) 12 (m (12, 0, 0) 6)) 13 (q8_tinIn m (3 * bc))
def q8_count (m : ZM) (bc ln : Nat) (sc : Nat → Nat) (k : Int32) : Int32 × ZM := if q_isIn k 0 13 = 0 then q8_t m 1 else (q8_cells (q8_z m) bc ln sc k.toNatClampNeg, q8_z m)

set_option maxHeartbeats 4000000 in
set_option maxRecDepth 100000 in
theorem c_X8_counted (l : Launch) (D : va_G) (cy : Nat → ClassId) (ad : ZN → Nat) (m : ZM) (sz : Nat) {L : List ZN} (hL : zL L) (hn0 : (2, 70, 14) ∉ L) {bc : Nat} {sc go : Nat → Nat} {hq ln : Nat} (G : gM m bc sc go hq ln) (k : Nat) (gk : k ≤ 13) : Met l yX8_counted (zws yX8_counted cX8_counted 3 (some .int)) ({ frames := 1, cells := 1, slots := 14, locals := 23 } : Room) (zPc D cy ad L m sz [.ref (ad (12, 0, 0)), .int (nI k)]) (zQi (fun r m1 => r = q8_cells m bc ln sc k ∧ m1 = m) D cy ad L sz) 1 14 (zA ad L sz) := by
  refine zopen (Qc := fun sz => zQi (fun r m1 => r = q8_cells m bc ln sc k ∧ m1 = m) D cy ad L sz) RX8 (plainFor_of_name (by decide)) rfl (Nat.le_of_ble_eq_true rfl) ?_
  intro p e s mi below meth c ls C hr hlocks hml hl H locs hw
  obtain ⟨hx, hb, hts, hown, hK, hNw⟩ := id C
  have hl : lv_has ls 3 [(0, .ref (ad (12, 0, 0))), (1, .int (nI k))] := hl
  obtain ⟨⟨hbc, lbc, hbx, -⟩, hln, lln⟩ := id G
  refine lv_bipush (v := 14) hx hb dX8_counted_0 (by decide) ?_
  refine znewa (id := 70) (len := 14) C hw hn0 (by decide) rfl (by decide) zW_int (Nat.le_of_ble_eq_true rfl) (Nat.le_of_ble_eq_true rfl) dX8_counted_2 (fun ad1 H m1 em1 hsame hfresh hw => ?_)
  have hL : zL (L ++ [(2, 70, 14)]) := fun n hn => List.mem_append_left _ (hL n hn)
  have hm1 : ∀ n : ZN, n ≠ (2, 70, 14) → m1 n = m n := fun n hn => by rw [em1]; exact zu_ne hn
  rw [← hsame (12, 0, 0) (by decide)] at hl
  refine lv_dup hx hb dX8_counted_4 rfl ?_
  refine lv_iconst (v := 0) hx hb dX8_counted_5 (by decide) ?_
  refine lv_aload_n hx hb dX8_counted_6 rfl (lv_at hl 0 rfl) ?_
  refine zg_X8_10 C hw (zn12 hL) dX8_counted_7 ?_
  refine zg_X8_93 C hw (zn13 hL (by decide)) dX8_counted_10 ?_
  refine ztop (congrFun (hm1 (13, 0, 0) (by decide)) 0) ?_
  refine zastN C hw (List.mem_append_right _ (List.mem_singleton.mpr rfl)) 0 (by omega) rfl (by decide) dX8_counted_13 (fun H locs m2 em2 hw => ?_)
  have hm2 : ∀ n : ZN, n ≠ (2, 70, 14) → m2 n = m n := fun n hn => by rw [em2, zs_ne hn]; exact hm1 n hn
  refine lv_dup hx hb dX8_counted_14 rfl ?_
  refine lv_iconst (v := 1) hx hb dX8_counted_15 (by decide) ?_
  refine lv_aload_n hx hb dX8_counted_16 rfl (lv_at hl 0 rfl) ?_
  refine zg_X8_10 C hw (zn12 hL) dX8_counted_17 ?_
  refine zg_X8_100 C hw (zn13 hL (by decide)) dX8_counted_20 ?_
  refine ztop (congrFun (hm2 (13, 0, 0) (by decide)) 1) ?_
  refine zastN C hw (List.mem_append_right _ (List.mem_singleton.mpr rfl)) 1 (by omega) rfl (by decide) dX8_counted_23 (fun H locs m3 em3 hw => ?_)
  have hm3 : ∀ n : ZN, n ≠ (2, 70, 14) → m3 n = m n := fun n hn => by rw [em3, zs_ne hn]; exact hm2 n hn
  refine lv_dup hx hb dX8_counted_24 rfl ?_
  refine lv_iconst (v := 2) hx hb dX8_counted_25 (by decide) ?_
  refine lv_aload_n hx hb dX8_counted_26 rfl (lv_at hl 0 rfl) ?_
  refine zg_X8_10 C hw (zn12 hL) dX8_counted_27 ?_
  refine zg_X8_38 C hw (zn13 hL (by decide)) dX8_counted_30 ?_
  refine ztop (congrFun (hm3 (13, 0, 0) (by decide)) 2) ?_
  refine zastN C hw (List.mem_append_right _ (List.mem_singleton.mpr rfl)) 2 (by omega) rfl (by decide) dX8_counted_33 (fun H locs m4 em4 hw => ?_)
  have hm4 : ∀ n : ZN, n ≠ (2, 70, 14) → m4 n = m n := fun n hn => by rw [em4, zs_ne hn]; exact hm3 n hn
  refine lv_dup hx hb dX8_counted_34 rfl ?_
  refine lv_iconst (v := 3) hx hb dX8_counted_35 (by decide) ?_
  refine lv_aload_n hx hb dX8_counted_36 rfl (lv_at hl 0 rfl) ?_
  refine zg_X8_10 C hw (zn12 hL) dX8_counted_37 ?_
  refine zg_X8_41 C hw (zn13 hL (by decide)) dX8_counted_40 ?_
  refine ztop (congrFun (hm4 (13, 0, 0) (by decide)) 4) ?_
  refine zastN C hw (List.mem_append_right _ (List.mem_singleton.mpr rfl)) 3 (by omega) rfl (by decide) dX8_counted_43 (fun H locs m5 em5 hw => ?_)
  have hm5 : ∀ n : ZN, n ≠ (2, 70, 14) → m5 n = m n := fun n hn => by rw [em5, zs_ne hn]; exact hm4 n hn
  refine lv_dup hx hb dX8_counted_44 rfl ?_
  refine lv_iconst (v := 4) hx hb dX8_counted_45 (by decide) ?_
  refine lv_aload_n hx hb dX8_counted_46 rfl (lv_at hl 0 rfl) ?_
  refine zg_X8_10 C hw (zn12 hL) dX8_counted_47 ?_
  refine zg_X8_79 C hw (zn13 hL (by decide)) dX8_counted_50 ?_
  refine ztop (congrFun (hm5 (13, 0, 0) (by decide)) 14) ?_
  refine zastN C hw (List.mem_append_right _ (List.mem_singleton.mpr rfl)) 4 (by omega) rfl (by decide) dX8_counted_53 (fun H locs m6 em6 hw => ?_)
  have hm6 : ∀ n : ZN, n ≠ (2, 70, 14) → m6 n = m n := fun n hn => by rw [em6, zs_ne hn]; exact hm5 n hn
  refine lv_dup hx hb dX8_counted_54 rfl ?_
  refine lv_iconst (v := 5) hx hb dX8_counted_55 (by decide) ?_
  refine lv_aload_n hx hb dX8_counted_56 rfl (lv_at hl 0 rfl) ?_
  refine zg_X8_10 C hw (zn12 hL) dX8_counted_57 ?_
  refine zafter_i C hw (zrunV (rest := [.int 5, .ref (ad1 (2, 70, 14)), .ref (ad1 (2, 70, 14))]) C hml hl.1 hw (zn13 hL (by decide)) rfl rfl (c_X7_inHopper l D cy ad1 m6 H.size hL (by decide) ((congrFun (hm6 (13, 0, 0) (by decide)) 14).trans hln) lln) zv_X8_103 rfl rfl rfl ⟨Nat.le_of_ble_eq_true rfl, Nat.le_of_ble_eq_true rfl⟩ rfl (Nat.le_of_ble_eq_true rfl) dX8_counted_60 ⟨Nat.le_of_ble_eq_true rfl, Nat.le_of_ble_eq_true rfl⟩) (fun r9 m8 H locs h7 hw => ?_)
  obtain ⟨er9, h7⟩ := h7
  rw [h7] at hw
  clear h7 m8
  rw [q_inHop_c (hm6 (2, 20 + 20 * 0, 90) (by decide))] at er9
  refine zastN C hw (List.mem_append_right _ (List.mem_singleton.mpr rfl)) 5 (by omega) rfl (by decide) dX8_counted_63 (fun H locs m10 em10 hw => ?_)
  have hm10 : ∀ n : ZN, n ≠ (2, 70, 14) → m10 n = m n := fun n hn => by rw [em10, zs_ne hn]; exact hm6 n hn
  refine lv_dup hx hb dX8_counted_64 rfl ?_
  refine lv_bipush (v := 6) hx hb dX8_counted_65 (by decide) ?_
  refine lv_aload_n hx hb dX8_counted_67 rfl (lv_at hl 0 rfl) ?_
  refine zg_X8_10 C hw (zn12 hL) dX8_counted_68 ?_
  refine zafter_i C hw (zrunV (rest := [.int 6, .ref (ad1 (2, 70, 14)), .ref (ad1 (2, 70, 14))]) C hml hl.1 hw (zn13 hL (by decide)) rfl rfl (c_X7_load l D cy ad1 m10 H.size hL (by decide) ((congrFun (hm10 (13, 0, 0) (by decide)) 4).trans hbc) lbc (fun b hb => ⟨(congrFun (hm10 (2, 11 + 20 * 0, 4) (by decide)) b).trans (hbx b hb).1, (hbx b hb).2.1⟩)) zv_X8_106 rfl rfl rfl ⟨Nat.le_of_ble_eq_true rfl, Nat.le_of_ble_eq_true rfl⟩ rfl (Nat.le_of_ble_eq_true rfl) dX8_counted_71 ⟨Nat.le_of_ble_eq_true rfl, Nat.le_of_ble_eq_true rfl⟩) (fun r13 m12 H locs h11 hw => ?_)
  obtain ⟨er13, h11⟩ := h11
  rw [h11] at hw
  clear h11 m12
  rw [q_load7_c (hm10 (2, 12 + 20 * 0, 16) (by decide)) (hm10 (2, 13 + 20 * 0, 16) (by decide))] at er13
  refine zastN C hw (List.mem_append_right _ (List.mem_singleton.mpr rfl)) 6 (by omega) rfl (by decide) dX8_counted_74 (fun H locs m14 em14 hw => ?_)
  have hm14 : ∀ n : ZN, n ≠ (2, 70, 14) → m14 n = m n := fun n hn => by rw [em14, zs_ne hn]; exact hm10 n hn
  refine lv_dup hx hb dX8_counted_75 rfl ?_
  refine lv_bipush (v := 7) hx hb dX8_counted_76 (by decide) ?_
  refine lv_aload_n hx hb dX8_counted_78 rfl (lv_at hl 0 rfl) ?_
  refine zg_X8_19 C hw (zn12 hL) dX8_counted_79 ?_
  refine lv_iconst (v := 0) hx hb dX8_counted_82 (by decide) ?_
  refine zaldN C hw (zn2s hL) 0 (by omega) rfl (by decide) dX8_counted_83 ?_
  refine ztop (congrFun (hm14 (2, 60, 2) (by decide)) 0) ?_
  refine zastN C hw (List.mem_append_right _ (List.mem_singleton.mpr rfl)) 7 (by omega) rfl (by decide) dX8_counted_84 (fun H locs m15 em15 hw => ?_)
  have hm15 : ∀ n : ZN, n ≠ (2, 70, 14) → m15 n = m n := fun n hn => by rw [em15, zs_ne hn]; exact hm14 n hn
  refine lv_dup hx hb dX8_counted_85 rfl ?_
  refine lv_bipush (v := 8) hx hb dX8_counted_86 (by decide) ?_
  refine lv_aload_n hx hb dX8_counted_88 rfl (lv_at hl 0 rfl) ?_
  refine zg_X8_19 C hw (zn12 hL) dX8_counted_89 ?_
  refine lv_iconst (v := 1) hx hb dX8_counted_92 (by decide) ?_
  refine zaldN C hw (zn2s hL) 1 (by omega) rfl (by decide) dX8_counted_93 ?_
  refine ztop (congrFun (hm15 (2, 60, 2) (by decide)) 1) ?_
  refine zastN C hw (List.mem_append_right _ (List.mem_singleton.mpr rfl)) 8 (by omega) rfl (by decide) dX8_counted_94 (fun H locs m16 em16 hw => ?_)
  have hm16 : ∀ n : ZN, n ≠ (2, 70, 14) → m16 n = m n := fun n hn => by rw [em16, zs_ne hn]; exact hm15 n hn
  refine lv_dup hx hb dX8_counted_95 rfl ?_
  refine lv_bipush (v := 9) hx hb dX8_counted_96 (by decide) ?_
  refine lv_aload_n hx hb dX8_counted_98 rfl (lv_at hl 0 rfl) ?_
  refine zg_X8_10 C hw (zn12 hL) dX8_counted_99 ?_
  refine zg_X8_109 C hw (zn13 hL (by decide)) dX8_counted_102 ?_
  refine ztop (congrFun (hm16 (13, 0, 0) (by decide)) 17) ?_
  refine zastN C hw (List.mem_append_right _ (List.mem_singleton.mpr rfl)) 9 (by omega) rfl (by decide) dX8_counted_105 (fun H locs m17 em17 hw => ?_)
  have hm17 : ∀ n : ZN, n ≠ (2, 70, 14) → m17 n = m n := fun n hn => by rw [em17, zs_ne hn]; exact hm16 n hn
  refine lv_dup hx hb dX8_counted_106 rfl ?_
  refine lv_bipush (v := 10) hx hb dX8_counted_107 (by decide) ?_
  refine lv_aload_n hx hb dX8_counted_109 rfl (lv_at hl 0 rfl) ?_
  refine zg_X8_112 C hw (zn12 hL) dX8_counted_110 ?_
  refine ztop (congrFun (hm17 (12, 0, 0) (by decide)) 5) ?_
  refine zastN C hw (List.mem_append_right _ (List.mem_singleton.mpr rfl)) 10 (by omega) rfl (by decide) dX8_counted_113 (fun H locs m18 em18 hw => ?_)
  have hm18 : ∀ n : ZN, n ≠ (2, 70, 14) → m18 n = m n := fun n hn => by rw [em18, zs_ne hn]; exact hm17 n hn
  refine lv_dup hx hb dX8_counted_114 rfl ?_
  refine lv_bipush (v := 11) hx hb dX8_counted_115 (by decide) ?_
  refine lv_aload_n hx hb dX8_counted_117 rfl (lv_at hl 0 rfl) ?_
  refine zg_X8_115 C hw (zn12 hL) dX8_counted_118 ?_
  refine ztop (congrFun (hm18 (12, 0, 0) (by decide)) 4) ?_
  refine zastN C hw (List.mem_append_right _ (List.mem_singleton.mpr rfl)) 11 (by omega) rfl (by decide) dX8_counted_121 (fun H locs m19 em19 hw => ?_)
  have hm19 : ∀ n : ZN, n ≠ (2, 70, 14) → m19 n = m n := fun n hn => by rw [em19, zs_ne hn]; exact hm18 n hn
  refine lv_dup hx hb dX8_counted_122 rfl ?_
  refine lv_bipush (v := 12) hx hb dX8_counted_123 (by decide) ?_
  refine lv_aload_n hx hb dX8_counted_125 rfl (lv_at hl 0 rfl) ?_
  refine zg_X8_118 C hw (zn12 hL) dX8_counted_126 ?_
  refine ztop (congrFun (hm19 (12, 0, 0) (by decide)) 6) ?_
  refine zastN C hw (List.mem_append_right _ (List.mem_singleton.mpr rfl)) 12 (by omega) rfl (by decide) dX8_counted_129 (fun H locs m20 em20 hw => ?_)
  have hm20 : ∀ n : ZN, n ≠ (2, 70, 14) → m20 n = m n := fun n hn => by rw [em20, zs_ne hn]; exact hm19 n hn
  refine lv_dup hx hb dX8_counted_130 rfl ?_
  refine lv_bipush (v := 13) hx hb dX8_counted_131 (by decide) ?_
  refine lv_aload_n hx hb dX8_counted_133 rfl (lv_at hl 0 rfl) ?_
  refine zafter_i C hw (zrunV (rest := [.int 13, .ref (ad1 (2, 70, 14)), .ref (ad1 (2, 70, 14))]) C hml hl.1 hw (zn12 hL) rfl rfl (c_X8_tinInBoxes l D cy ad1 m20 H.size hL ((congrFun (hm20 (13, 0, 0) (by decide)) 4).trans hbc) lbc) zv_X8_121 rfl rfl rfl ⟨Nat.le_of_ble_eq_true rfl, Nat.le_of_ble_eq_true rfl⟩ rfl (Nat.le_of_ble_eq_true rfl) dX8_counted_134 ⟨Nat.le_of_ble_eq_true rfl, Nat.le_of_ble_eq_true rfl⟩) (fun r23 m22 H locs h21 hw => ?_)
  obtain ⟨er23, h21⟩ := h21
  rw [h21] at hw
  clear h21 m22
  rw [q8_tinIn_c (hm20 (2, 19 + 20 * 0, 24) (by decide))] at er23
  refine zastN C hw (List.mem_append_right _ (List.mem_singleton.mpr rfl)) 13 (by omega) rfl (by decide) dX8_counted_137 (fun H locs m24 em24 hw => ?_)
  have hm24 : ∀ n : ZN, n ≠ (2, 70, 14) → m24 n = m n := fun n hn => by rw [em24, zs_ne hn]; exact hm20 n hn
  refine lv_astore_n (lv' := [(2, .ref (ad1 (2, 70, 14))), (0, .ref (ad1 (12, 0, 0))), (1, .int (nI k))]) hx hb dX8_counted_138 rfl hl (by decide) rfl (fun ls hl => ?_)
  refine lv_aload_n hx hb dX8_counted_139 rfl (lv_at hl 0 rfl) ?_
  refine lv_iload_n hx hb dX8_counted_140 rfl (lv_at hl 2 rfl) ?_
  refine zaldN C hw (List.mem_append_right _ (List.mem_singleton.mpr rfl)) k (by omega) rfl (by decide) dX8_counted_141 ?_
  have hw := zH_drop (n0 := (2, 70, 14)) ⟨rfl, Or.inl rfl⟩ hn0 hsame hfresh hm24 hw
  refine W.widen (k := 1) (n := 14) (by omega) (by omega) ?_
  exact zret_i C hr hlocks hw dX8_counted_142 ⟨by rw [em24, zs_at, em20, zs_at, em19, zs_at, em18, zs_at, em17, zs_at, em16, zs_at, em15, zs_at, em14, zs_at, em10, zs_at, em6, zs_at, em5, zs_at, em4, zs_at, em3, zs_at, em2, zs_at, em1, zu_eq, er9, er13, er23]; rfl, rfl⟩

set_option maxHeartbeats 4000000 in
set_option maxRecDepth 100000 in
theorem c_X8_count (l : Launch) (D : va_G) (cy : Nat → ClassId) (ad : ZN → Nat) (m : ZM) (sz : Nat) {L : List ZN} (hL : zL L) (hn0 : (2, 70, 14) ∉ L) {bc : Nat} {sc go : Nat → Nat} {hq ln : Nat} (G : gM m bc sc go hq ln) (k : Int32) : Met l yX8_count (zws yX8_count cX8_count 2 (some .int)) ({ frames := 2, cells := 1, slots := 14, locals := 45 } : Room) (zPc D cy ad L m sz [.ref (ad (12, 0, 0)), .int k]) (zQi (fun r m1 => r = (q8_count m bc ln sc k).1 ∧ m1 = (q8_count m bc ln sc k).2) D cy ad L sz) 1 14 (zA ad L sz) := by
  refine zopen (Qc := fun sz => zQi (fun r m1 => r = (q8_count m bc ln sc k).1 ∧ m1 = (q8_count m bc ln sc k).2) D cy ad L sz) RX8 (plainFor_of_name (by decide)) rfl (Nat.le_of_ble_eq_true rfl) ?_
  intro p e s mi below meth c ls C hr hlocks hml hl H locs hw
  obtain ⟨hx, hb, hts, hown, hK, hNw⟩ := id C
  have hl : lv_has ls 2 [(0, .ref (ad (12, 0, 0))), (1, .int k)] := hl
  refine lv_aload_n hx hb dX8_count_0 rfl (lv_at hl 0 rfl) ?_
  refine lv_iconst (v := 0) hx hb dX8_count_1 (by decide) ?_
  refine zp_X8_23 C hw (zn12 hL) dX8_count_2 (fun H locs m1 em1 hw => ?_)
  have GM1 : gM m1 bc sc go hq ln := by rw [em1]; exact gM_t G
  obtain ⟨⟨hbc1, lbc1, hbx1, hhd1, -, hhq1, lhq1, hld1⟩, hln1, lln1⟩ := id GM1
  refine lv_iload_n hx hb dX8_count_5 rfl (lv_at hl 1 rfl) ?_
  refine lv_iconst (v := 0) hx hb dX8_count_6 (by decide) ?_
  refine lv_bipush (v := 13) hx hb dX8_count_7 (by decide) ?_
  refine zafter_i C hw (zrunS (rest := []) C hml hl.1 hw (c_X8_isIn l D cy ad m1 H.size k 0 13) zv_X8_27 rfl rfl rfl ⟨Nat.le_of_ble_eq_true rfl, Nat.le_of_ble_eq_true rfl⟩ rfl (Nat.le_of_ble_eq_true rfl) dX8_count_9 ⟨Nat.zero_le _, Nat.zero_le _⟩) (fun r4 m3 H locs h2 hw => ?_)
  obtain ⟨er4, h2⟩ := h2
  rw [h2] at hw
  clear h2 m3
  refine lv_if_eq (tgt := 23) hx hb dX8_count_12 (by decide) (fun c12_5 => ?_) (fun c12_5 => ?_)
  · skip
    rw [er4] at c12_5
    refine lv_aload_n hx hb dX8_count_23 rfl (lv_at hl 0 rfl) ?_
    refine lv_iconst (v := 1) hx hb dX8_count_24 (by decide) ?_
    refine zafter_i C hw (zrunV (rest := []) C hml hl.1 hw (zn12 hL) rfl rfl (c_X8_no l D cy ad m1 H.size hL 1) zv_X8_31 rfl rfl rfl ⟨Nat.le_of_ble_eq_true rfl, Nat.le_of_ble_eq_true rfl⟩ rfl (Nat.le_of_ble_eq_true rfl) dX8_count_25 ⟨Nat.zero_le _, Nat.zero_le _⟩) (fun r8 m7 H locs h6 hw => ?_)
    obtain ⟨er8, em7⟩ := h6
    refine W.widen (k := 1) (n := 14) (by omega) (by omega) ?_
    exact zret_i C hr hlocks hw dX8_count_28 (by subst_vars; exact zpair (if_pos c12_5))
  · skip
    rw [er4] at c12_5
    obtain ⟨uk, ukl, uku⟩ := q_isIn_ok (x := k) (a := 0) (b := 13) (by decide) (by decide) (fun q => c12_5 q)
    refine lv_aload_n hx hb dX8_count_15 rfl (lv_at hl 0 rfl) ?_
    refine lv_iload_n hx hb dX8_count_16 rfl (lv_at hl 1 rfl) ?_
    refine W.eq (congrArg (fun z : Int32 => F0 mi 17 ls [.int z, .ref (ad (12, 0, 0))]) (show k = nI k.toNatClampNeg from uk)) ?_
    refine zafter_iC C hw (zrunV (rest := []) C hml hl.1 hw (zn12 hL) rfl rfl (c_X8_counted l D cy ad m1 H.size hL hn0 GM1 k.toNatClampNeg (by omega)) zv_X8_124 rfl rfl rfl ⟨Nat.le_of_ble_eq_true rfl, Nat.le_of_ble_eq_true rfl⟩ rfl (Nat.le_of_ble_eq_true rfl) dX8_count_17 ⟨Nat.le_of_ble_eq_true rfl, Nat.le_of_ble_eq_true rfl⟩) (fun r11 m10 H locs h9 hw => ?_)
    obtain ⟨er11, h9⟩ := h9
    rw [h9] at hw
    clear h9 m10
    refine lv_goto (tgt := 28) hx hb dX8_count_20 (by decide) ?_
    refine W.widen (k := 1) (n := 14) (by omega) (by omega) ?_
    exact zret_i C hr hlocks hw dX8_count_28 (by subst_vars; exact zpair (if_neg c12_5))
