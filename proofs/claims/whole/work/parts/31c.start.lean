/-! from the entry to the loop (by program: wip/whole/sp28.py) -/
theorem zk_L_73 : kGI RL 73 yX6_init cX6_init 1 := ⟨kgood (zr_1 _ (List.mem_of_getElem? (i := 9) rfl)), (zr_1 _ (List.mem_of_getElem? (i := 2) rfl)), (zr_1 _ (List.mem_of_getElem? (i := 7) rfl)), (zr_1 _ (List.mem_of_getElem? (i := 8) rfl)), by decide +kernel⟩
theorem zk_L_76 : kGI RL 76 yX8_init cX8_init 1 := ⟨kgood (zr_4 _ (List.mem_of_getElem? (i := 4) rfl)), (zr_1 _ (List.mem_of_getElem? (i := 5) rfl)), (zr_4 _ (List.mem_of_getElem? (i := 2) rfl)), (zr_4 _ (List.mem_of_getElem? (i := 3) rfl)), by decide +kernel⟩
def kN (sz : Nat) : Nat → Prop := fun q => sz ≤ q
theorem whole_names {D : va_G} {cy : Nat → ClassId} {H0 H : Heap} {locs : List Loc} {q1 q2 q3 : Nat} {Zs Zm : va_W} (hz1 : kSW cy q1 Zs) (hz2 : kModel cy q2 Zm) (hP : va_P D vwCl ((Zs ++ Zm) ++ [(q3, .inl (cy 5, 1, .inr (.inl (fun _ => 0))))]) H) (hD : va_D (kN H0.size) ((Zs ++ Zm) ++ [(q3, .inl (cy 5, 1, .inr (.inl (fun _ => 0))))])) (hS : va_S (kN H0.size) H0 H locs) :
    ∃ ad : ZN → Nat, ad (0, 0, 0) = q1 ∧ ad (12, 0, 0) = q2 ∧ ad (14, 0, 0) = q3 ∧ zH D cy ad lAll H0 H locs km0 ∧ ∀ q, zA ad lAll H0.size q → H0.size ≤ q := by
  obtain ⟨ad, a0, a12, a14, hM⟩ := kM_all (D := D) (q3 := q3) hz1 hz2
  obtain ⟨hmap, hPz⟩ := kM_end hM
  have hP1 := hPz H hP
  have hD1 := kD_map hmap hD
  have hsz : ∀ n ∈ lAll, H0.size ≤ ad n := by
    intro n hn
    obtain ⟨k, hk⟩ := List.getElem?_of_mem (List.mem_map_of_mem (f := fun n => (ad n, zc cy ad n (km0 n))) hn)
    exact hD1.2 k _ hk
  have hAz : ∀ q, zA ad lAll H0.size q → H0.size ≤ q := by
    intro q h
    rcases h with ⟨n, hn, e⟩ | h
    · rw [e]; exact hsz n hn
    · exact h
  exact ⟨ad, a0, a12, a14, ⟨hP1, ⟨hD1.1, fun k q hk => Or.inr (hD1.2 k q hk)⟩, hS.1, fun q h1 _ => hS.2.1 q h1 (Nat.not_le.mpr h1), fun l hl => Or.inr (hS.2.2 l hl)⟩, hAz⟩
set_option maxHeartbeats 4000000 in
set_option maxRecDepth 100000 in
theorem whole_start {p : Program} {e : Env} {s : State} {m : MethodId} {below : List Frame} {meth : Method} {c : Code} (l : Launch) (hflags : l.flags = flags0) {b L : Nat} {xs : Nat → Int32} (hL : L ≤ 2048) (C0 : lw_At p s m meth c b L xs) : W p l e room_1 s m #[Value.ref b] below meth c s.heap [] 0 0 (lw_Z below #[Value.ref b] s) (entryFrame m ([Value.ref b] : List Value).toArray 9) := by
  obtain ⟨hx, hb, hr, hml, hown, hts0, hX, hbl, hlocks, hgv⟩ := id C0
  have hst : l.stackTraces = false := by
    show (!l.flags.contains noTraceFlag) = false
    rw [hflags]
    decide
  obtain ⟨D, cy, hK⟩ := ke_K hts0
  have hNw := ke_Nw hts0
  have hAO := ke_AO hts0
  have hts : ∀ w ∈ wsL_law, w.before #[Value.ref b] s = true := fun w h => hts0 w (wsL_law_in w h)
  have hA : ∀ q : Nat, s.heap.size ≤ q → kN s.heap.size q := fun q h => h
  have C : zX p s m #[Value.ref b] c code RL D cy := ⟨hx, hb, hts, hown, hK, hNw⟩
  have hS : va_S (kN s.heap.size) s.heap s.heap [] := va_S.rf
  have hP : va_P D vwCl [] s.heap := fun k q h => by simp at h
  have hD : va_D (kN s.heap.size) [] := ⟨fun i j p q h => by simp at h, fun k q h => by simp at h⟩
  have hl := lv_entry [Value.ref b] (n := 9) (Nat.le_of_ble_eq_true rfl)
  rw [lg_entry_eq]
  generalize (lg_sl [Value.ref b] ++ List.replicate (9 - (lg_sl [Value.ref b]).length) Slot.unset).toArray = ls at hl ⊢
  refine va_new (ci := 6) (fs := [.null, .null]) (C := RX6) (T := TX6) (N := 2) (ws := []) hx hb hts inlX6 tyX6 tyX6_ok hown (hts _ (zr_1 _ (List.mem_of_getElem? (i := 0) rfl))) (hts _ (zr_1 _ (List.mem_of_getElem? (i := 1) rfl))) (hts _ (zr_1 _ (List.mem_of_getElem? (i := 2) rfl))) hK hP hD hS hA rfl (fun j hj => by rcases (show j = 0 ∨ j = 1 by omega) with rfl | rfl <;> rfl) (show 0 + 1 ≤ 601024 by omega) (show 0 + 2 ≤ 7293034 by omega) dL_law_0 (fun q1 H hP hD hS => ?_)
  refine lv_dup hx hb dL_law_3 rfl ?_
  refine kafter (X := []) (q := q1) (e0 := .inr (6, [.null, .null])) hA hP hD hS (krunI (X := []) (rest := [.ref q1]) C hAO hml hl.1 hP (c_X6_init l D cy q1 H.size) zk_L_73 rfl rfl ⟨Nat.le_of_ble_eq_true rfl, Nat.le_of_ble_eq_true rfl⟩ (Nat.le_of_ble_eq_true rfl) dL_law_4 ⟨(show 0 + 1 + 214 ≤ 601024 by omega), (show 0 + 2 + 660 ≤ 7293034 by omega)⟩) (fun Zs H locs hz1 hP hD hS => ?_)
  have hP : va_P D vwCl Zs H := hP
  have hD : va_D (kN s.heap.size) Zs := hD
  refine lv_astore_n (lv' := [(1, .ref q1), (0, .ref b)]) hx hb dL_law_7 rfl hl (by decide) rfl (fun ls hl => ?_)
  refine va_new (ci := 8) (fs := [.int 0, .null, .null, .null, .int 0, .int 0, .int 0]) (C := RX8) (T := TX8) (N := 7) (ws := Zs) hx hb hts inlX8 tyX8 tyX8_ok hown (hts _ (zr_1 _ (List.mem_of_getElem? (i := 3) rfl))) (hts _ (zr_1 _ (List.mem_of_getElem? (i := 4) rfl))) (hts _ (zr_1 _ (List.mem_of_getElem? (i := 5) rfl))) hK hP hD hS hA rfl (fun j hj => by rcases (show j = 0 ∨ j = 1 ∨ j = 2 ∨ j = 3 ∨ j = 4 ∨ j = 5 ∨ j = 6 by omega) with rfl | rfl | rfl | rfl | rfl | rfl | rfl <;> rfl) (show 0 + 1 + 214 + 1 ≤ 601024 by omega) (show 0 + 2 + 660 + 7 ≤ 7293034 by omega) dL_law_8 (fun q2 H hP hD hS => ?_)
  refine lv_dup hx hb dL_law_11 rfl ?_
  refine kafter (X := Zs) (q := q2) (e0 := .inr (8, [.int 0, .null, .null, .null, .int 0, .int 0, .int 0])) hA hP hD hS (krunI (X := Zs) (rest := [.ref q2]) C hAO hml hl.1 hP (c_X8_init l D cy q2 H.size) zk_L_76 rfl rfl ⟨Nat.le_of_ble_eq_true rfl, Nat.le_of_ble_eq_true rfl⟩ (Nat.le_of_ble_eq_true rfl) dL_law_12 ⟨(show 0 + 1 + 214 + 1 + 27 ≤ 601024 by omega), (show 0 + 2 + 660 + 7 + 462 ≤ 7293034 by omega)⟩) (fun Zm H locs hz2 hP hD hS => ?_)
  refine lv_astore_n (lv' := [(2, .ref q2), (1, .ref q1), (0, .ref b)]) hx hb dL_law_15 rfl hl (by decide) rfl (fun ls hl => ?_)
  refine lv_iconst (v := 1) hx hb dL_law_16 (by decide) ?_
  refine va_newa (atype := .long) (ty := .long) (N' := 1) (a0 := (1, .inr (.inl (fun _ => 0)))) (ws := Zs ++ Zm) hx hb (hts _ (zr_1 _ (List.mem_of_getElem? (i := 6) rfl))) rfl hK hP hD hS hA (fun cA => rfl) (by decide) rfl (by decide) (show 0 + 1 + 214 + 1 + 27 + 1 ≤ 601024 by omega) (show 0 + 2 + 660 + 7 + 462 + 1 ≤ 7293034 by omega) dL_law_17 (fun q3 cA H hK9 hP hD hS => ?_)
  obtain rfl := kcyL hK9
  refine lv_astore_n (lv' := [(3, .ref q3), (2, .ref q2), (1, .ref q1), (0, .ref b)]) hx hb dL_law_19 rfl hl (by decide) rfl (fun ls hl => ?_)
  refine lv_iconst (v := 0) hx hb dL_law_20 (by decide) ?_
  refine lv_istore (lv' := [(4, .int 0), (3, .ref q3), (2, .ref q2), (1, .ref q1), (0, .ref b)]) hx hb dL_law_21 hl (by decide) rfl (fun ls hl => ?_)
  obtain ⟨ad, a0, a12, a14, hw, hAz⟩ := whole_names hz1 hz2 hP hD hS
  have hlt : ∀ a : Nat, a < s.heap.size → ¬ zA ad lAll s.heap.size a := fun a h1 h2 => absurd h1 (Nat.not_lt.mpr (hAz a h2))
  have F : lwF l p s m meth c b L xs D cy ad lAll := ⟨hst, C, ke_E hts0 hgv hlt, ke_Nc hgv, hX, hbl, hlt b hbl, hAz, hr, hlocks, hml, lAll_ok, lAll_hn0, lAll_hn1, hL⟩
  have hl : lv_has ls 9 (lwl b ad (nI (4 * 0))) := by
    rw [← a0, ← a12, ← a14] at hl
    exact hl
  refine W.base ?_
  refine W.widen (k := 300 + 20 * 0) (n := 1500 + 220 * 0) (by omega) (by omega) ?_
  exact lw_loop F L 0 (by omega) (by omega) s.drawn (Drawn.sameBut.refl s.drawn lw_cs) H locs ls km0 0 (fun _ => 0) (fun _ => 0) 0 0 0 RQ_0 hw hl
