/-! what holds at the entry (by program: wip/whole/sp26.py) -/
theorem wsL_law_x0 : ∀ w ∈ (vx_atS RX6 23 "java/lang/IndexOutOfBoundsException" ["java/lang/RuntimeException", "java/lang/Exception"]).filter goodWord, w ∈ lw_tbl := by decide +kernel
theorem wsL_law_x1 : ∀ w ∈ (vx_atS RX6 30 "java/lang/IllegalArgumentException" ["java/lang/RuntimeException", "java/lang/Exception"]).filter goodWord, w ∈ lw_tbl := by decide +kernel
theorem wsL_law_x2 : ∀ w ∈ (vx_atS RX6 48 "java/lang/IllegalStateException" ["java/lang/RuntimeException", "java/lang/Exception"]).filter goodWord, w ∈ lw_tbl := by decide +kernel
theorem wsL_law_in : ∀ w ∈ wsL_law, w ∈ lw_tbl := fun w h => (List.mem_append.mp h).elim (fun h => (List.mem_append.mp h).elim (fun h => (List.mem_append.mp h).elim (fun h => wsL_law_in0 w h) (fun h => wsL_law_x0 w h)) (fun h => wsL_law_x1 w h)) (fun h => wsL_law_x2 w h)
theorem ke_nest : ∀ w ∈ znest, w ∈ lw_tbl := by decide +kernel
theorem ke_nestM : ∀ w ∈ znestM, w ∈ lw_tbl := by decide +kernel
theorem ke_cast : ∀ k ∈ [1, 2, 3], Cond.castable (zEn k) (zEn k) ∈ lw_tbl := by decide +kernel
theorem ke_decl : ∀ C ∈ zNd, Cond.declares (Bundle.initS C) ∈ lw_tbl := by decide +kernel
theorem ke_strs : ∀ q ∈ zTx, Cond.stringRef RX6 q.1 q.2 ∈ lw_tbl := by decide +kernel
theorem ke_over : ∀ C ∈ ["StampWorks$Box", "StampWorks$Lot", "StampWorks$Ore", "StampWorks$Stamp"], Cond.arrayOver (.object C) ∈ lw_tbl := by decide +kernel
theorem ke_st : ∀ q ∈ [("UNASSIGNED_STACK", Bundle.steD), ("SUPPRESSED_SENTINEL", Bundle.listD)], Cond.laysStatic Bundle.tN q.1 q.2 ∈ lw_tbl := by decide +kernel
theorem ke_ini : Cond.initialized Bundle.tN ∈ lw_tbl := by decide +kernel
theorem ke_inst : ∀ q ∈ vwCl, ∃ n, Cond.instantiable q.1 n ∈ lw_tbl := by
  have h : ∀ q ∈ [(RX0, 9), (RX1, 3), (RX2, 2), (RX3, 2), (RX4, 3), (RX5, 12), (RX6, 2), (RX7, 18), (RX8, 7)], Cond.instantiable q.1 q.2 ∈ lw_tbl := by decide +kernel
  intro q hq
  simp only [List.mem_cons, List.not_mem_nil, or_false] at hq
  rcases hq with rfl | rfl | rfl | rfl | rfl | rfl | rfl | rfl | rfl
  · exact ⟨_, h _ (List.mem_of_getElem? (i := 0) rfl)⟩
  · exact ⟨_, h _ (List.mem_of_getElem? (i := 1) rfl)⟩
  · exact ⟨_, h _ (List.mem_of_getElem? (i := 2) rfl)⟩
  · exact ⟨_, h _ (List.mem_of_getElem? (i := 3) rfl)⟩
  · exact ⟨_, h _ (List.mem_of_getElem? (i := 4) rfl)⟩
  · exact ⟨_, h _ (List.mem_of_getElem? (i := 5) rfl)⟩
  · exact ⟨_, h _ (List.mem_of_getElem? (i := 6) rfl)⟩
  · exact ⟨_, h _ (List.mem_of_getElem? (i := 7) rfl)⟩
  · exact ⟨_, h _ (List.mem_of_getElem? (i := 8) rfl)⟩
section KE
variable {s : State} {b : Nat}
theorem ke_prim {ty : FieldType} (h : (Cond.arrayClass ty).before #[Value.ref b] s = true) : ∃ cA, ArrOfT s cA ty ∧ s.vm.findClass ("[" ++ ty.toString) = some cA := by
  obtain ⟨c, k, comp, h1, h2, h3⟩ := Cond.arrayClass_spec h
  exact ⟨c, fun n z => ⟨(fun k h => by cases h), k, h2, comp, h3⟩, h1⟩
theorem ke_obj {C : String} (h : (Cond.arrayOver (.object C)).before #[Value.ref b] s = true) : ∃ cA, ArrOfT s cA (.object C) ∧ va_RA s cA (.object C) := by
  obtain ⟨comp, c, k, h1, -, h2, h3, h4⟩ := Cond.arrayOver_spec h
  exact ⟨c, fun n z => ⟨(fun k h => by cases h), k, h2, comp, h3⟩, k, comp, h2, h3, h1, h4⟩
theorem ke_K (hts : ∀ w ∈ lw_tbl, w.before #[Value.ref b] s = true) : ∃ (D : va_G) (cy : Nat → ClassId), va_K D vwCl (ztys cy) s := by
  have hs : ∀ w ∈ wsL_law, w.before #[Value.ref b] s = true := fun w h => hts w (wsL_law_in w h)
  have hd : ∀ c : Nat, ∃ d : ClassId × (Nat → Nat), ∀ q : vw_C, vwCl[c]? = some q → u_Kn s q.1 q.2.1 q.2.2 d.1 d.2 := by
    intro c
    cases hq : vwCl[c]? with
    | none => exact ⟨(0, fun _ => 0), fun q h => by cases h⟩
    | some q =>
      have hm : q ∈ vwCl := List.mem_of_getElem? hq
      obtain ⟨n, hn⟩ := ke_inst q hm
      have hin : ∀ w ∈ u_ws q.1 q.2.1 q.2.2, w ∈ wsL_law := by
        simp only [List.mem_cons, List.not_mem_nil, or_false] at hm
        rcases hm with rfl | rfl | rfl | rfl | rfl | rfl | rfl | rfl | rfl
        · exact inlX0
        · exact inlX1
        · exact inlX2
        · exact inlX3
        · exact inlX4
        · exact inlX5
        · exact inlX6
        · exact inlX7
        · exact inlX8
      obtain ⟨cC, iS, h⟩ := u_known hs hin (hts _ hn)
      exact ⟨(cC, iS), fun q' h' => by cases h'; exact h⟩
  obtain ⟨D, hD⟩ := Classical.axiomOfChoice hd
  obtain ⟨c0, a0, b0⟩ := ke_prim (hs _ (zr_1 _ (List.mem_of_getElem? (i := 22) rfl)))
  obtain ⟨c1, a1⟩ := ke_obj (hts _ (ke_over _ (List.mem_of_getElem? (i := 0) rfl)))
  obtain ⟨c2, a2⟩ := ke_obj (hts _ (ke_over _ (List.mem_of_getElem? (i := 1) rfl)))
  obtain ⟨c3, a3⟩ := ke_obj (hts _ (ke_over _ (List.mem_of_getElem? (i := 2) rfl)))
  obtain ⟨c4, a4⟩ := ke_obj (hts _ (ke_over _ (List.mem_of_getElem? (i := 3) rfl)))
  obtain ⟨c5, a5, b5⟩ := ke_prim (hs _ (zr_1 _ (List.mem_of_getElem? (i := 6) rfl)))
  refine ⟨(fun c => (D c).1, fun c => (D c).2), fun k => [c0, c1, c2, c3, c4, c5].getD k 0, fun c q hq => hD c q hq, fun k q hk => ?_⟩
  have hm := List.mem_of_getElem? hk
  simp only [ztys, List.mem_cons, List.not_mem_nil, or_false] at hm
  rcases hm with rfl | rfl | rfl | rfl | rfl | rfl
  · exact ⟨a0, b0⟩
  · exact a1
  · exact a2
  · exact a3
  · exact a4
  · exact ⟨a5, b5⟩
theorem ke_Nw (hts : ∀ w ∈ lw_tbl, w.before #[Value.ref b] s = true) : zNw s := by
  refine ⟨fun w hw => ?_, fun w hw => ?_⟩
  · have h := hts w (ke_nest w hw)
    obtain ⟨q, -, rfl⟩ := List.mem_map.mp hw
    exact va_Nw.of rfl h
  · have h := hts w (ke_nestM w hw)
    obtain ⟨q, -, rfl⟩ := List.mem_map.mp hw
    exact va_Nw.of rfl h
theorem ke_AO (hts : ∀ w ∈ lw_tbl, w.before #[Value.ref b] s = true) : kAO s := ⟨va_AO.of (hts _ (ke_over _ (List.mem_of_getElem? (i := 0) rfl))), va_AO.of (hts _ (ke_over _ (List.mem_of_getElem? (i := 1) rfl))), va_AO.of (hts _ (ke_over _ (List.mem_of_getElem? (i := 2) rfl))), va_AO.of (hts _ (ke_over _ (List.mem_of_getElem? (i := 3) rfl)))⟩
theorem ke_Nc (hgv : (Jvm.Cond.and given_1 narrow_1).before #[Value.ref b] s = true) : zNcs s := by
  have hs := flat_of_before _ hgv
  exact ⟨va_Nc.of (args := #[Value.ref b]) (hs _ (by decide +kernel)), va_Nc.of (args := #[Value.ref b]) (hs _ (by decide +kernel)), va_Nc.of (args := #[Value.ref b]) (hs _ (by decide +kernel)), va_Nc.of (args := #[Value.ref b]) (hs _ (by decide +kernel))⟩
theorem ke_E (hts : ∀ w ∈ lw_tbl, w.before #[Value.ref b] s = true) (hgv : (Jvm.Cond.and given_1 narrow_1).before #[Value.ref b] s = true) {A : Nat → Prop} (hA : ∀ a : Nat, a < s.heap.size → ¬ A a) : zE A s s.heap := by
  have hs := flat_of_before _ hgv
  refine ⟨vx_Zqof (hts _ (ke_st _ (List.mem_of_getElem? (i := 0) rfl))) (hts _ ke_ini) (hs _ (by decide +kernel)) hA, vx_Zqof (hts _ (ke_st _ (List.mem_of_getElem? (i := 1) rfl))) (hts _ ke_ini) (hs _ (by decide +kernel)) hA, fun q hq => ?_, fun k hk => va_Nw.of rfl (hts _ (ke_cast k hk)), fun C hC => va_Nw.of rfl (hts _ (ke_decl C hC))⟩
  have he : ∀ q ∈ zTx, Cond.exactly (.string RX6 q.1) "java/lang/String" ∈ flatC (Jvm.Cond.and given_1 narrow_1) := by decide +kernel
  obtain ⟨a, c, cell, k, h1, -⟩ := Cond.exactly_spec (hs _ (he q hq))
  exact ⟨a, vk_R.of (hts _ (ke_strs q hq)) h1⟩
end KE
