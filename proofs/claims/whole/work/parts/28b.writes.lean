/-! the writes, side by side (by program: wip/whole/sp16.py) -/
theorem RQ_setInflow {ma mb A B : ZM} {n bc hq f c : Nat} {sc bu : Nat → Nat} (R : RQ ma mb n bc sc bu hq f c) {i a : Nat} (ha : a ≤ 900) (eA : A = zs ma (2, 0, 24) i (nI a)) (eB : B = zs mb (2, 10 + 20 * 0, 24) i (nI a)) : RQ A B n bc sc bu hq f c := by
  obtain ⟨q1, ⟨r1, r2, r3, r4, r5, r6, r7, r8, r9, -, z, N, r11, r12, r13, r14⟩, q3, q4, q5, q6, q7⟩ := R
  have P1 : ∀ j, j ≠ 99 → A (1, 0, 0) j = ma (1, 0, 0) j := fun j h9 => by rw [eA, zs_k (zk rfl)]
  have P4 : ∀ w d, d < 99 ∨ 99 ≤ d → A (4, w, d) = ma (4, w, d) := fun w d h9 => by rw [eA, zs_k (zk rfl)]
  have P6 : ∀ j, j < 99 ∨ 99 ≤ j → A (6, 0, j) = ma (6, 0, j) := fun j h9 => by rw [eA, zs_k (zk rfl)]
  have P7 : ∀ o, o < 99 ∨ 99 ≤ o → A (7, 0, o) = ma (7, 0, o) := fun o h9 => by rw [eA, zs_k (zk rfl)]
  have P8 : A (8, 0, 0) = ma (8, 0, 0) := by rw [eA, zs_k (zk rfl)]
  have P10 : ∀ o, True → A (10, 0, o) = ma (10, 0, o) := fun o h9 => by rw [eA, zs_k (zk rfl)]
  have M13 : ∀ j, j ≠ 99 → B (13, 0, 0) j = mb (13, 0, 0) j := fun j h9 => by rw [eB, zs_k (zk rfl)]
  have M2k : ∀ j, B (12, 0, 0) j = mb (12, 0, 0) j := fun j => by rw [eB, zs_k (zk rfl)]
  have M60 : B (2, 60, 2) = mb (2, 60, 2) := by rw [eB, zs_ne (z2_ne (by decide))]
  have M11 : ∀ j, j < 99 ∨ 99 ≤ j → B (2, 11 + 20 * 0, 4) j = mb (2, 11 + 20 * 0, 4) j := fun j h9 => by rw [eB, zs_ne (z2_ne (by decide))]
  have M12 : ∀ j, j < 99 ∨ 99 ≤ j → B (2, 12 + 20 * 0, 16) j = mb (2, 12 + 20 * 0, 16) j := fun j h9 => by rw [eB, zs_ne (z2_ne (by decide))]
  have M3 : ∀ j, j < 99 ∨ 99 ≤ j → B (2, 13 + 20 * 0, 16) j = mb (2, 13 + 20 * 0, 16) j := fun j h9 => by rw [eB, zs_ne (z2_ne (by decide))]
  have M14 : ∀ j, j < 99 ∨ 99 ≤ j → B (2, 14 + 20 * 0, 16) j = mb (2, 14 + 20 * 0, 16) j := fun j h9 => by rw [eB, zs_ne (z2_ne (by decide))]
  have M15 : ∀ j, j < 99 ∨ 99 ≤ j → B (2, 15 + 20 * 0, 4) j = mb (2, 15 + 20 * 0, 4) j := fun j h9 => by rw [eB, zs_ne (z2_ne (by decide))]
  have M16 : ∀ j, j < 99 ∨ 99 ≤ j → B (2, 16 + 20 * 0, 4) j = mb (2, 16 + 20 * 0, 4) j := fun j h9 => by rw [eB, zs_ne (z2_ne (by decide))]
  have M17 : ∀ j, j < 99 ∨ 99 ≤ j → B (2, 17 + 20 * 0, 4) j = mb (2, 17 + 20 * 0, 4) j := fun j h9 => by rw [eB, zs_ne (z2_ne (by decide))]
  have M18 : B (2, 18 + 20 * 0, 4) = mb (2, 18 + 20 * 0, 4) := by rw [eB, zs_ne (z2_ne (by decide))]
  have M19 : B (2, 19 + 20 * 0, 24) = mb (2, 19 + 20 * 0, 24) := by rw [eB, zs_ne (z2_ne (by decide))]
  have M20 : B (2, 20 + 20 * 0, 90) = mb (2, 20 + 20 * 0, 90) := by rw [eB, zs_ne (z2_ne (by decide))]
  have M21 : B (2, 21 + 20 * 0, 6) = mb (2, 21 + 20 * 0, 6) := by rw [eB, zs_ne (z2_ne (by decide))]
  have hL := tL_same q3 P8 (fun _ _ _ => P7 _ (by omega)) (fun _ => P10 _ trivial) (by rw [M13 _ (by decide)]) M20
  exact ⟨q1, ⟨by rw [P1 _ (by decide)]; exact r1, by rw [M13 _ (by decide)]; exact r2, r3, by rw [P1 _ (by decide)]; exact r4, by rw [M13 _ (by decide)]; exact r5, by rw [P1 _ (by decide), M13 _ (by decide)]; exact r6, by rw [P1 _ (by decide), M13 _ (by decide)]; exact r7, fun h hh => by
    by_cases e : h = i
    · exact ⟨a, ha, by rw [eA, zs_eq e], by rw [eB, zs_eq e]⟩
    · rw [eA, eB, zs_ej e, zs_ej e]
      exact r8 h hh, fun u hu => tU_same (r9 u hu) (P7 _ (by omega)) (by rw [M21]) (by rw [M21]), ⟨_, _, hL⟩, z, N, by rw [P1 _ (by decide)]; exact r11, by rw [M13 _ (by decide)]; exact r12, fun d hd => tB_same (r13 d hd) (P4 _ _ (by omega)) (fun _ _ _ => P6 _ (by omega)) (fun _ _ _ => P7 _ (by omega)) (M11 _ (by omega)) (M16 _ (by omega)) (M15 _ (by omega)) (M17 _ (by omega)) (by rw [M18]) (fun _ _ _ => M12 _ (by omega)) (fun _ _ _ => M3 _ (by omega)) (fun _ _ _ => M14 _ (by omega)) (fun _ _ _ => by rw [M19]), r14⟩, hL, fun d h1 h2 => ⟨(q4 d h1 h2).1, (q4 d h1 h2).2.1, tFr_same (q4 d h1 h2).2.2 (P4 _ _ (by omega)) (fun _ _ _ => P7 _ (by omega)) (M11 _ (by omega)) (M16 _ (by omega)) (by rw [M18]) (fun _ _ _ => by rw [M19])⟩, fun d k h1 h2 h3 => by rw [P6 _ (by omega)]; exact q5 d k h1 h2 h3, tZ_same q6 (Nat.le_refl _) (P7 _ (by omega)) (P7 _ (by omega)) (P1 _ (by decide)) M60 (fun j _ _ => M2k j), gT_same q7 (fun d _ => P4 _ _ (by omega))⟩

theorem RQ_setSluice {ma mb A B : ZM} {n bc hq f c : Nat} {sc bu : Nat → Nat} (R : RQ ma mb n bc sc bu hq f c) {s : Nat} (hs : s ≤ 20) (eA : A = zs ma (1, 0, 0) 8 (nI s)) (eB : B = zs mb (13, 0, 0) 2 (nI s)) : RQ A B n bc sc bu hq f c := by
  obtain ⟨q1, ⟨r1, r2, r3, r4, r5, r6, r7, r8, r9, -, z, N, r11, r12, r13, r14⟩, q3, q4, q5, q6, q7⟩ := R
  have P1 : ∀ j, j ≠ 8 → A (1, 0, 0) j = ma (1, 0, 0) j := fun j h9 => by rw [eA, zs_ej h9]
  have P2 : A (2, 0, 24) = ma (2, 0, 24) := by rw [eA, zs_k (zk rfl)]
  have P4 : ∀ w d, d < 99 ∨ 99 ≤ d → A (4, w, d) = ma (4, w, d) := fun w d h9 => by rw [eA, zs_k (zk rfl)]
  have P6 : ∀ j, j < 99 ∨ 99 ≤ j → A (6, 0, j) = ma (6, 0, j) := fun j h9 => by rw [eA, zs_k (zk rfl)]
  have P7 : ∀ o, o < 99 ∨ 99 ≤ o → A (7, 0, o) = ma (7, 0, o) := fun o h9 => by rw [eA, zs_k (zk rfl)]
  have P8 : A (8, 0, 0) = ma (8, 0, 0) := by rw [eA, zs_k (zk rfl)]
  have P10 : ∀ o, True → A (10, 0, o) = ma (10, 0, o) := fun o h9 => by rw [eA, zs_k (zk rfl)]
  have M13 : ∀ j, j ≠ 2 → B (13, 0, 0) j = mb (13, 0, 0) j := fun j h9 => by rw [eB, zs_ej h9]
  have M2k : ∀ j, B (12, 0, 0) j = mb (12, 0, 0) j := fun j => by rw [eB, zs_k (zk rfl)]
  have M60 : B (2, 60, 2) = mb (2, 60, 2) := by rw [eB, zs_k (zk rfl)]
  have M10 : B (2, 10 + 20 * 0, 24) = mb (2, 10 + 20 * 0, 24) := by rw [eB, zs_k (zk rfl)]
  have M11 : ∀ j, j < 99 ∨ 99 ≤ j → B (2, 11 + 20 * 0, 4) j = mb (2, 11 + 20 * 0, 4) j := fun j h9 => by rw [eB, zs_k (zk rfl)]
  have M12 : ∀ j, j < 99 ∨ 99 ≤ j → B (2, 12 + 20 * 0, 16) j = mb (2, 12 + 20 * 0, 16) j := fun j h9 => by rw [eB, zs_k (zk rfl)]
  have M3 : ∀ j, j < 99 ∨ 99 ≤ j → B (2, 13 + 20 * 0, 16) j = mb (2, 13 + 20 * 0, 16) j := fun j h9 => by rw [eB, zs_k (zk rfl)]
  have M14 : ∀ j, j < 99 ∨ 99 ≤ j → B (2, 14 + 20 * 0, 16) j = mb (2, 14 + 20 * 0, 16) j := fun j h9 => by rw [eB, zs_k (zk rfl)]
  have M15 : ∀ j, j < 99 ∨ 99 ≤ j → B (2, 15 + 20 * 0, 4) j = mb (2, 15 + 20 * 0, 4) j := fun j h9 => by rw [eB, zs_k (zk rfl)]
  have M16 : ∀ j, j < 99 ∨ 99 ≤ j → B (2, 16 + 20 * 0, 4) j = mb (2, 16 + 20 * 0, 4) j := fun j h9 => by rw [eB, zs_k (zk rfl)]
  have M17 : ∀ j, j < 99 ∨ 99 ≤ j → B (2, 17 + 20 * 0, 4) j = mb (2, 17 + 20 * 0, 4) j := fun j h9 => by rw [eB, zs_k (zk rfl)]
  have M18 : B (2, 18 + 20 * 0, 4) = mb (2, 18 + 20 * 0, 4) := by rw [eB, zs_k (zk rfl)]
  have M19 : B (2, 19 + 20 * 0, 24) = mb (2, 19 + 20 * 0, 24) := by rw [eB, zs_k (zk rfl)]
  have M20 : B (2, 20 + 20 * 0, 90) = mb (2, 20 + 20 * 0, 90) := by rw [eB, zs_k (zk rfl)]
  have M21 : B (2, 21 + 20 * 0, 6) = mb (2, 21 + 20 * 0, 6) := by rw [eB, zs_k (zk rfl)]
  have hL := tL_same q3 P8 (fun _ _ _ => P7 _ (by omega)) (fun _ => P10 _ trivial) (by rw [M13 _ (by decide)]) M20
  exact ⟨q1, ⟨by rw [P1 _ (by decide)]; exact r1, by rw [M13 _ (by decide)]; exact r2, r3, by rw [P1 _ (by decide)]; exact r4, by rw [M13 _ (by decide)]; exact r5, by rw [P1 _ (by decide), M13 _ (by decide)]; exact r6, ⟨s, hs, by rw [eA, zs_eq rfl], by rw [eB, zs_eq rfl]⟩, by rw [P2, M10]; exact r8, fun u hu => tU_same (r9 u hu) (P7 _ (by omega)) (by rw [M21]) (by rw [M21]), ⟨_, _, hL⟩, z, N, by rw [P1 _ (by decide)]; exact r11, by rw [M13 _ (by decide)]; exact r12, fun d hd => tB_same (r13 d hd) (P4 _ _ (by omega)) (fun _ _ _ => P6 _ (by omega)) (fun _ _ _ => P7 _ (by omega)) (M11 _ (by omega)) (M16 _ (by omega)) (M15 _ (by omega)) (M17 _ (by omega)) (by rw [M18]) (fun _ _ _ => M12 _ (by omega)) (fun _ _ _ => M3 _ (by omega)) (fun _ _ _ => M14 _ (by omega)) (fun _ _ _ => by rw [M19]), r14⟩, hL, fun d h1 h2 => ⟨(q4 d h1 h2).1, (q4 d h1 h2).2.1, tFr_same (q4 d h1 h2).2.2 (P4 _ _ (by omega)) (fun _ _ _ => P7 _ (by omega)) (M11 _ (by omega)) (M16 _ (by omega)) (by rw [M18]) (fun _ _ _ => by rw [M19])⟩, fun d k h1 h2 h3 => by rw [P6 _ (by omega)]; exact q5 d k h1 h2 h3, tZ_same q6 (Nat.le_refl _) (P7 _ (by omega)) (P7 _ (by omega)) (P1 _ (by decide)) M60 (fun j _ _ => M2k j), gT_same q7 (fun d _ => P4 _ _ (by omega))⟩

theorem RQ_addBox {ma mb A B : ZM} {n bc hq f c : Nat} {sc bu : Nat → Nat} (R : RQ ma mb n bc sc bu hq f c) (hb : bc < 4) (eA : A = zs ma (1, 0, 0) 9 (nI (bc + 1))) (eB : B = zs (zs (zs mb (2, 15 + 20 * 0, 4) bc 50) (2, 17 + 20 * 0, 4) bc 5) (13, 0, 0) 4 (nI (bc + 1))) : RQ A B n (bc + 1) sc bu hq f c := by
  obtain ⟨q1, ⟨r1, r2, r3, r4, r5, r6, r7, r8, r9, -, z, N, r11, r12, r13, r14⟩, q3, q4, q5, q6, q7⟩ := R
  have P1 : ∀ j, j ≠ 9 → A (1, 0, 0) j = ma (1, 0, 0) j := fun j h9 => by rw [eA, zs_ej h9]
  have P2 : A (2, 0, 24) = ma (2, 0, 24) := by rw [eA, zs_k (zk rfl)]
  have P4 : ∀ w d, d < 99 ∨ 99 ≤ d → A (4, w, d) = ma (4, w, d) := fun w d h9 => by rw [eA, zs_k (zk rfl)]
  have P6 : ∀ j, j < 99 ∨ 99 ≤ j → A (6, 0, j) = ma (6, 0, j) := fun j h9 => by rw [eA, zs_k (zk rfl)]
  have P7 : ∀ o, o < 99 ∨ 99 ≤ o → A (7, 0, o) = ma (7, 0, o) := fun o h9 => by rw [eA, zs_k (zk rfl)]
  have P8 : A (8, 0, 0) = ma (8, 0, 0) := by rw [eA, zs_k (zk rfl)]
  have P10 : ∀ o, True → A (10, 0, o) = ma (10, 0, o) := fun o h9 => by rw [eA, zs_k (zk rfl)]
  have M13 : ∀ j, j ≠ 4 → B (13, 0, 0) j = mb (13, 0, 0) j := fun j h9 => by rw [eB, zs_ej h9, zs_k (zk rfl), zs_k (zk rfl)]
  have M2k : ∀ j, B (12, 0, 0) j = mb (12, 0, 0) j := fun j => by rw [eB, zs_k (zk rfl), zs_k (zk rfl), zs_k (zk rfl)]
  have M60 : B (2, 60, 2) = mb (2, 60, 2) := by rw [eB, zs_k (zk rfl), zs_ne (z2_ne (by decide)), zs_ne (z2_ne (by decide))]
  have M10 : B (2, 10 + 20 * 0, 24) = mb (2, 10 + 20 * 0, 24) := by rw [eB, zs_k (zk rfl), zs_ne (z2_ne (by decide)), zs_ne (z2_ne (by decide))]
  have M11 : ∀ j, j < 99 ∨ 99 ≤ j → B (2, 11 + 20 * 0, 4) j = mb (2, 11 + 20 * 0, 4) j := fun j h9 => by rw [eB, zs_k (zk rfl), zs_ne (z2_ne (by decide)), zs_ne (z2_ne (by decide))]
  have M12 : ∀ j, j < 99 ∨ 99 ≤ j → B (2, 12 + 20 * 0, 16) j = mb (2, 12 + 20 * 0, 16) j := fun j h9 => by rw [eB, zs_k (zk rfl), zs_ne (z2_ne (by decide)), zs_ne (z2_ne (by decide))]
  have M3 : ∀ j, j < 99 ∨ 99 ≤ j → B (2, 13 + 20 * 0, 16) j = mb (2, 13 + 20 * 0, 16) j := fun j h9 => by rw [eB, zs_k (zk rfl), zs_ne (z2_ne (by decide)), zs_ne (z2_ne (by decide))]
  have M14 : ∀ j, j < 99 ∨ 99 ≤ j → B (2, 14 + 20 * 0, 16) j = mb (2, 14 + 20 * 0, 16) j := fun j h9 => by rw [eB, zs_k (zk rfl), zs_ne (z2_ne (by decide)), zs_ne (z2_ne (by decide))]
  have M15 : ∀ j, j ≠ bc → B (2, 15 + 20 * 0, 4) j = mb (2, 15 + 20 * 0, 4) j := fun j h9 => by rw [eB, zs_k (zk rfl), zs_ne (z2_ne (by decide)), zs_ej h9]
  have M16 : ∀ j, j < 99 ∨ 99 ≤ j → B (2, 16 + 20 * 0, 4) j = mb (2, 16 + 20 * 0, 4) j := fun j h9 => by rw [eB, zs_k (zk rfl), zs_ne (z2_ne (by decide)), zs_ne (z2_ne (by decide))]
  have M17 : ∀ j, j ≠ bc → B (2, 17 + 20 * 0, 4) j = mb (2, 17 + 20 * 0, 4) j := fun j h9 => by rw [eB, zs_k (zk rfl), zs_ej h9, zs_ne (z2_ne (by decide))]
  have M18 : B (2, 18 + 20 * 0, 4) = mb (2, 18 + 20 * 0, 4) := by rw [eB, zs_k (zk rfl), zs_ne (z2_ne (by decide)), zs_ne (z2_ne (by decide))]
  have M19 : B (2, 19 + 20 * 0, 24) = mb (2, 19 + 20 * 0, 24) := by rw [eB, zs_k (zk rfl), zs_ne (z2_ne (by decide)), zs_ne (z2_ne (by decide))]
  have M20 : B (2, 20 + 20 * 0, 90) = mb (2, 20 + 20 * 0, 90) := by rw [eB, zs_k (zk rfl), zs_ne (z2_ne (by decide)), zs_ne (z2_ne (by decide))]
  have M21 : B (2, 21 + 20 * 0, 6) = mb (2, 21 + 20 * 0, 6) := by rw [eB, zs_k (zk rfl), zs_ne (z2_ne (by decide)), zs_ne (z2_ne (by decide))]
  obtain ⟨s0, u0, g1, g2, g3, g4, g5, g6, g7, g8, g9, g10⟩ := q4 bc (Nat.le_refl _) hb
  have hnew : tB A B 0 bc (sc bc) (bu bc) 0 := by
    rw [s0, u0]
    refine ⟨by rw [P4 _ _ (by omega)]; exact g1.trans nI_0.symm, by rw [M11 _ (by omega)]; exact g7.trans nI_0.symm, by decide, by rw [P4 _ _ (by omega)]; exact g3.trans nI_0.symm, by rw [M16 _ (by omega)]; exact g8.trans nI_0.symm, by decide, ⟨50, by decide, by rw [P4 _ _ (by omega)]; exact g2, ?_⟩, ⟨5, by decide, by decide, by rw [P4 _ _ (by omega)]; exact g4, ?_⟩, ⟨0, by decide, by rw [P4 _ _ (by omega)]; exact g5.trans nI_0.symm, by rw [M18]; exact g9.trans nI_0.symm⟩, fun k hk => absurd hk (Nat.not_lt_zero k), 0, 0, 0, 0, 0, 0, ⟨?_, ?_, ?_⟩, rfl⟩
    · rw [eB, zs_k (zk rfl), zs_ne (z2_ne (by decide)), zs_eq rfl]; rfl
    · rw [eB, zs_k (zk rfl), zs_eq rfl]; rfl
    · exact ⟨by rw [P7 _ (by omega)]; exact (g6 _ 0 (by omega) (by omega) (by decide)).trans nI_0.symm, by rw [P7 _ (by omega)]; exact (g6 _ 1 (by omega) (by omega) (by decide)).trans nI_0.symm, by rw [M19]; exact (g10 _ (by omega) (by omega)).trans nI_0.symm, by rw [M19]; exact (g10 _ (by omega) (by omega)).trans nI_0.symm⟩
    · exact ⟨by rw [P7 _ (by omega)]; exact (g6 _ 0 (by omega) (by omega) (by decide)).trans nI_0.symm, by rw [P7 _ (by omega)]; exact (g6 _ 1 (by omega) (by omega) (by decide)).trans nI_0.symm, by rw [M19]; exact (g10 _ (by omega) (by omega)).trans nI_0.symm, by rw [M19]; exact (g10 _ (by omega) (by omega)).trans nI_0.symm⟩
    · exact ⟨by rw [P7 _ (by omega)]; exact (g6 _ 0 (by omega) (by omega) (by decide)).trans nI_0.symm, by rw [P7 _ (by omega)]; exact (g6 _ 1 (by omega) (by omega) (by decide)).trans nI_0.symm, by rw [M19]; exact (g10 _ (by omega) (by omega)).trans nI_0.symm, by rw [M19]; exact (g10 _ (by omega) (by omega)).trans nI_0.symm⟩
  have hL := tL_same q3 P8 (fun _ _ _ => P7 _ (by omega)) (fun _ => P10 _ trivial) (by rw [M13 _ (by decide)]) M20
  exact ⟨q1, ⟨by rw [eA, zs_eq rfl], by rw [eB, zs_eq rfl], hb, by rw [P1 _ (by decide)]; exact r4, by rw [M13 _ (by decide)]; exact r5, by rw [P1 _ (by decide), M13 _ (by decide)]; exact r6, by rw [P1 _ (by decide), M13 _ (by decide)]; exact r7, by rw [P2, M10]; exact r8, fun u hu => tU_same (r9 u hu) (P7 _ (by omega)) (by rw [M21]) (by rw [M21]), ⟨_, _, hL⟩, z, (fun d => if d = bc then 0 else N d), by rw [P1 _ (by decide)]; exact r11, by rw [M13 _ (by decide)]; exact r12, fun d hd => by
    show tB A B 0 d (sc d) (bu d) (if d = bc then 0 else N d)
    by_cases e : d = bc
    · subst e
      rw [if_pos rfl]
      exact hnew
    · rw [if_neg e]
      exact tB_same (r13 d (by omega)) (P4 _ _ (by omega)) (fun _ _ _ => P6 _ (by omega)) (fun _ _ _ => P7 _ (by omega)) (M11 _ (by omega)) (M16 _ (by omega)) (M15 _ (by omega)) (M17 _ (by omega)) (by rw [M18]) (fun _ _ _ => M12 _ (by omega)) (fun _ _ _ => M3 _ (by omega)) (fun _ _ _ => M14 _ (by omega)) (fun _ _ _ => by rw [M19]), by
    rw [nsum, nsum_c (N := N) (fun d hd => if_neg (by omega))]
    show z + (nsum N bc + if bc = bc then 0 else N bc) ≤ _
    rw [if_pos rfl]
    omega⟩, hL, fun d h1 h2 => ⟨(q4 d (by omega) h2).1, (q4 d (by omega) h2).2.1, tFr_same (q4 d (by omega) h2).2.2 (P4 _ _ (by omega)) (fun _ _ _ => P7 _ (by omega)) (M11 _ (by omega)) (M16 _ (by omega)) (by rw [M18]) (fun _ _ _ => by rw [M19])⟩, fun d k h1 h2 h3 => by rw [P6 _ (by omega)]; exact q5 d k h1 h2 h3, tZ_same q6 (Nat.le_refl _) (P7 _ (by omega)) (P7 _ (by omega)) (P1 _ (by decide)) M60 (fun j _ _ => M2k j), gT_same q7 (fun d _ => P4 _ _ (by omega))⟩

theorem RQ_hang {ma mb A B : ZM} {n bc hq f c : Nat} {sc bu : Nat → Nat} (R : RQ ma mb n bc sc bu hq f c) {b p q : Nat} (hb : b < bc) (hs : sc b < 4) (hp : p ≤ 60) (hq4 : q ≤ 4) (eA : A = q_addStamp ma 0 b (sc b) (nI p) (nI q)) (eB : B = zs (zs (zs (zs mb (2, 12 + 20 * 0, 16) (4 * b + sc b) (nI p)) (2, 13 + 20 * 0, 16) (4 * b + sc b) (nI q)) (2, 14 + 20 * 0, 16) (4 * b + sc b) 0) (2, 11 + 20 * 0, 4) b (nI (sc b + 1))) : RQ A B n bc (fun d => if d = b then sc b + 1 else sc d) bu hq f c := by
  obtain ⟨q1, ⟨r1, r2, r3, r4, r5, r6, r7, r8, r9, -, z, N, r11, r12, r13, r14⟩, q3, q4, q5, q6, q7⟩ := R
  have P1 : ∀ j, j ≠ 99 → A (1, 0, 0) j = ma (1, 0, 0) j := fun j h9 => by rw [eA]; unfold q_addStamp; rw [zs_k (zk rfl), zs_k (zk rfl), zs_k (zk rfl)]
  have P2 : A (2, 0, 24) = ma (2, 0, 24) := by rw [eA]; unfold q_addStamp; rw [zs_k (zk rfl), zs_k (zk rfl), zs_k (zk rfl)]
  have P4 : ∀ w d, ¬ (w = 0 ∧ d = b) → A (4, w, d) = ma (4, w, d) := fun w d h9 => by rw [eA]; unfold q_addStamp; rw [zs_ne (fun e => h9 (by injection e with _ e2; injection e2 with e3 e4; exact ⟨e3, e4⟩)), zs_k (zk rfl), zs_k (zk rfl)]
  have P6 : ∀ j, j ≠ 4 * b + sc b → A (6, 0, j) = ma (6, 0, j) := fun j h9 => by rw [eA]; unfold q_addStamp; rw [zs_k (zk rfl), zs_ne (z6_ne h9), zs_ne (z6_ne h9)]
  have P7 : ∀ o, o < 99 ∨ 99 ≤ o → A (7, 0, o) = ma (7, 0, o) := fun o h9 => by rw [eA]; unfold q_addStamp; rw [zs_k (zk rfl), zs_k (zk rfl), zs_k (zk rfl)]
  have P8 : A (8, 0, 0) = ma (8, 0, 0) := by rw [eA]; unfold q_addStamp; rw [zs_k (zk rfl), zs_k (zk rfl), zs_k (zk rfl)]
  have P10 : ∀ o, True → A (10, 0, o) = ma (10, 0, o) := fun o h9 => by rw [eA]; unfold q_addStamp; rw [zs_k (zk rfl), zs_k (zk rfl), zs_k (zk rfl)]
  have M13 : ∀ j, j ≠ 99 → B (13, 0, 0) j = mb (13, 0, 0) j := fun j h9 => by rw [eB, zs_k (zk rfl), zs_k (zk rfl), zs_k (zk rfl), zs_k (zk rfl)]
  have M2k : ∀ j, B (12, 0, 0) j = mb (12, 0, 0) j := fun j => by rw [eB, zs_k (zk rfl), zs_k (zk rfl), zs_k (zk rfl), zs_k (zk rfl)]
  have M60 : B (2, 60, 2) = mb (2, 60, 2) := by rw [eB, zs_ne (z2_ne (by decide)), zs_ne (z2_ne (by decide)), zs_ne (z2_ne (by decide)), zs_ne (z2_ne (by decide))]
  have M10 : B (2, 10 + 20 * 0, 24) = mb (2, 10 + 20 * 0, 24) := by rw [eB, zs_ne (z2_ne (by decide)), zs_ne (z2_ne (by decide)), zs_ne (z2_ne (by decide)), zs_ne (z2_ne (by decide))]
  have M11 : ∀ j, j ≠ b → B (2, 11 + 20 * 0, 4) j = mb (2, 11 + 20 * 0, 4) j := fun j h9 => by rw [eB, zs_ej h9, zs_ne (z2_ne (by decide)), zs_ne (z2_ne (by decide)), zs_ne (z2_ne (by decide))]
  have M12 : ∀ j, j ≠ 4 * b + sc b → B (2, 12 + 20 * 0, 16) j = mb (2, 12 + 20 * 0, 16) j := fun j h9 => by rw [eB, zs_ne (z2_ne (by decide)), zs_ne (z2_ne (by decide)), zs_ne (z2_ne (by decide)), zs_ej h9]
  have M3 : ∀ j, j ≠ 4 * b + sc b → B (2, 13 + 20 * 0, 16) j = mb (2, 13 + 20 * 0, 16) j := fun j h9 => by rw [eB, zs_ne (z2_ne (by decide)), zs_ne (z2_ne (by decide)), zs_ej h9, zs_ne (z2_ne (by decide))]
  have M14 : ∀ j, j ≠ 4 * b + sc b → B (2, 14 + 20 * 0, 16) j = mb (2, 14 + 20 * 0, 16) j := fun j h9 => by rw [eB, zs_ne (z2_ne (by decide)), zs_ej h9, zs_ne (z2_ne (by decide)), zs_ne (z2_ne (by decide))]
  have M15 : ∀ j, j < 99 ∨ 99 ≤ j → B (2, 15 + 20 * 0, 4) j = mb (2, 15 + 20 * 0, 4) j := fun j h9 => by rw [eB, zs_ne (z2_ne (by decide)), zs_ne (z2_ne (by decide)), zs_ne (z2_ne (by decide)), zs_ne (z2_ne (by decide))]
  have M16 : ∀ j, j < 99 ∨ 99 ≤ j → B (2, 16 + 20 * 0, 4) j = mb (2, 16 + 20 * 0, 4) j := fun j h9 => by rw [eB, zs_ne (z2_ne (by decide)), zs_ne (z2_ne (by decide)), zs_ne (z2_ne (by decide)), zs_ne (z2_ne (by decide))]
  have M17 : ∀ j, j < 99 ∨ 99 ≤ j → B (2, 17 + 20 * 0, 4) j = mb (2, 17 + 20 * 0, 4) j := fun j h9 => by rw [eB, zs_ne (z2_ne (by decide)), zs_ne (z2_ne (by decide)), zs_ne (z2_ne (by decide)), zs_ne (z2_ne (by decide))]
  have M18 : B (2, 18 + 20 * 0, 4) = mb (2, 18 + 20 * 0, 4) := by rw [eB, zs_ne (z2_ne (by decide)), zs_ne (z2_ne (by decide)), zs_ne (z2_ne (by decide)), zs_ne (z2_ne (by decide))]
  have M19 : B (2, 19 + 20 * 0, 24) = mb (2, 19 + 20 * 0, 24) := by rw [eB, zs_ne (z2_ne (by decide)), zs_ne (z2_ne (by decide)), zs_ne (z2_ne (by decide)), zs_ne (z2_ne (by decide))]
  have M20 : B (2, 20 + 20 * 0, 90) = mb (2, 20 + 20 * 0, 90) := by rw [eB, zs_ne (z2_ne (by decide)), zs_ne (z2_ne (by decide)), zs_ne (z2_ne (by decide)), zs_ne (z2_ne (by decide))]
  have M21 : B (2, 21 + 20 * 0, 6) = mb (2, 21 + 20 * 0, 6) := by rw [eB, zs_ne (z2_ne (by decide)), zs_ne (z2_ne (by decide)), zs_ne (z2_ne (by decide)), zs_ne (z2_ne (by decide))]
  have P4j : ∀ j, j ≠ 4 → A (4, 0, b) j = ma (4, 0, b) j := fun j h9 => by rw [eA]; unfold q_addStamp; rw [zs_ej h9, zs_k (zk rfl), zs_k (zk rfl)]
  obtain ⟨g1, g2, g3, g4, g5, g6, g7, g8, g9, g10, lr, lt, gr, gt, sr, st, ⟨x1, x2, x3⟩, hsum⟩ := r13 b hb
  have hnew : tB A B 0 b (sc b + 1) (bu b) (N b) := by
    refine ⟨?_, by rw [eB, zs_eq rfl], hs, by rw [P4j _ (by decide)]; exact g4, by rw [M16 _ (by omega)]; exact g5, g6, by rw [P4j _ (by decide), M15 _ (by omega)]; exact g7, by rw [P4j _ (by decide), M17 _ (by omega)]; exact g8, by rw [P4j _ (by decide), M18]; exact g9, fun k hk => ?_, lr, lt, gr, gt, sr, st, ⟨tO_same x1 (P7 _ (by omega)) (by rw [M19]) (by rw [M19]), tO_same x2 (P7 _ (by omega)) (by rw [M19]) (by rw [M19]), tO_same x3 (P7 _ (by omega)) (by rw [M19]) (by rw [M19])⟩, hsum⟩
    · rw [eA]; unfold q_addStamp; rw [zs_eq rfl, zs_k (zk rfl), zs_k (zk rfl), g1, nI_1]
    · by_cases e : k = sc b
      · subst e
        refine ⟨p, q, 0, ?_, ?_, ?_, ?_, ?_, ?_, hp, hq4, by decide⟩
        · rw [eA]; unfold q_addStamp; rw [zs_k (zk rfl), zs_ej (by decide), zs_eq rfl]
        · rw [eA]; unfold q_addStamp; rw [zs_k (zk rfl), zs_eq rfl]
        · rw [eA]; unfold q_addStamp; rw [zs_k (zk rfl), zs_ej (by decide), zs_ej (by decide), q5 b (sc b) (by omega) (Nat.le_refl _) hs]; exact nI_0.symm
        · rw [eB, zs_ne (z2_ne (by decide)), zs_ne (z2_ne (by decide)), zs_ne (z2_ne (by decide)), zs_eq rfl]
        · rw [eB, zs_ne (z2_ne (by decide)), zs_ne (z2_ne (by decide)), zs_eq rfl]
        · rw [eB, zs_ne (z2_ne (by decide)), zs_eq rfl]; exact nI_0.symm
      · rw [P6 _ (by omega), M12 _ (by omega), M3 _ (by omega), M14 _ (by omega)]
        exact g10 k (by omega)
  have hL := tL_same q3 P8 (fun _ _ _ => P7 _ (by omega)) (fun _ => P10 _ trivial) (by rw [M13 _ (by decide)]) M20
  exact ⟨q1, ⟨by rw [P1 _ (by decide)]; exact r1, by rw [M13 _ (by decide)]; exact r2, r3, by rw [P1 _ (by decide)]; exact r4, by rw [M13 _ (by decide)]; exact r5, by rw [P1 _ (by decide), M13 _ (by decide)]; exact r6, by rw [P1 _ (by decide), M13 _ (by decide)]; exact r7, by rw [P2, M10]; exact r8, fun u hu => tU_same (r9 u hu) (P7 _ (by omega)) (by rw [M21]) (by rw [M21]), ⟨_, _, hL⟩, z, N, by rw [P1 _ (by decide)]; exact r11, by rw [M13 _ (by decide)]; exact r12, fun d hd => by
    show tB A B 0 d (if d = b then sc b + 1 else sc d) (bu d) (N d)
    by_cases e : d = b
    · subst e
      rw [if_pos rfl]
      exact hnew
    · rw [if_neg e]
      have h3 := (r13 b hb).2.2.1
      exact tB_same (r13 d hd) (P4 _ _ (by omega)) (fun _ _ _ => P6 _ (by omega)) (fun _ _ _ => P7 _ (by omega)) (M11 _ (by omega)) (M16 _ (by omega)) (M15 _ (by omega)) (M17 _ (by omega)) (by rw [M18]) (fun _ _ _ => M12 _ (by omega)) (fun _ _ _ => M3 _ (by omega)) (fun _ _ _ => M14 _ (by omega)) (fun _ _ _ => by rw [M19]), r14⟩, hL, fun d h1 h2 => ⟨(if_neg (by omega)).trans (q4 d h1 h2).1, (q4 d h1 h2).2.1, tFr_same (q4 d h1 h2).2.2 (P4 _ _ (by omega)) (fun _ _ _ => P7 _ (by omega)) (M11 _ (by omega)) (M16 _ (by omega)) (by rw [M18]) (fun _ _ _ => by rw [M19])⟩, fun d k h1 h2 h3 => by
    have h2 : (if d = b then sc b + 1 else sc d) ≤ k := h2
    by_cases e : d = b
    · subst e
      rw [if_pos rfl] at h2
      rw [P6 _ (by omega)]
      exact q5 d k h1 (by omega) h3
    · rw [if_neg e] at h2
      rw [P6 _ (by omega)]
      exact q5 d k h1 h2 h3, tZ_same q6 (Nat.le_refl _) (P7 _ (by omega)) (P7 _ (by omega)) (P1 _ (by decide)) M60 (fun j _ _ => M2k j), gT_same q7 (fun d _ => P4 _ _ (by omega))⟩

theorem RQ_shoe {ma mb A B : ZM} {n bc hq f c : Nat} {sc bu : Nat → Nat} (R : RQ ma mb n bc sc bu hq f c) {b k0 : Nat} (hb : b < bc) (hk0 : k0 < sc b) (eA : A = zs ma (6, 0, 4 * b + k0) 2 0) (eB : B = zs mb (2, 14 + 20 * 0, 16) (4 * b + k0) 0) : RQ A B n bc sc bu hq f c := by
  obtain ⟨q1, ⟨r1, r2, r3, r4, r5, r6, r7, r8, r9, -, z, N, r11, r12, r13, r14⟩, q3, q4, q5, q6, q7⟩ := R
  have P1 : ∀ j, j ≠ 99 → A (1, 0, 0) j = ma (1, 0, 0) j := fun j h9 => by rw [eA, zs_k (zk rfl)]
  have P2 : A (2, 0, 24) = ma (2, 0, 24) := by rw [eA, zs_k (zk rfl)]
  have P4 : ∀ w d, d < 99 ∨ 99 ≤ d → A (4, w, d) = ma (4, w, d) := fun w d h9 => by rw [eA, zs_k (zk rfl)]
  have P6 : ∀ j, j ≠ 4 * b + k0 → A (6, 0, j) = ma (6, 0, j) := fun j h9 => by rw [eA, zs_ne (z6_ne h9)]
  have P7 : ∀ o, o < 99 ∨ 99 ≤ o → A (7, 0, o) = ma (7, 0, o) := fun o h9 => by rw [eA, zs_k (zk rfl)]
  have P8 : A (8, 0, 0) = ma (8, 0, 0) := by rw [eA, zs_k (zk rfl)]
  have P10 : ∀ o, True → A (10, 0, o) = ma (10, 0, o) := fun o h9 => by rw [eA, zs_k (zk rfl)]
  have M13 : ∀ j, j ≠ 99 → B (13, 0, 0) j = mb (13, 0, 0) j := fun j h9 => by rw [eB, zs_k (zk rfl)]
  have M2k : ∀ j, B (12, 0, 0) j = mb (12, 0, 0) j := fun j => by rw [eB, zs_k (zk rfl)]
  have M60 : B (2, 60, 2) = mb (2, 60, 2) := by rw [eB, zs_ne (z2_ne (by decide))]
  have M10 : B (2, 10 + 20 * 0, 24) = mb (2, 10 + 20 * 0, 24) := by rw [eB, zs_ne (z2_ne (by decide))]
  have M11 : ∀ j, j < 99 ∨ 99 ≤ j → B (2, 11 + 20 * 0, 4) j = mb (2, 11 + 20 * 0, 4) j := fun j h9 => by rw [eB, zs_ne (z2_ne (by decide))]
  have M12 : ∀ j, j < 99 ∨ 99 ≤ j → B (2, 12 + 20 * 0, 16) j = mb (2, 12 + 20 * 0, 16) j := fun j h9 => by rw [eB, zs_ne (z2_ne (by decide))]
  have M3 : ∀ j, j < 99 ∨ 99 ≤ j → B (2, 13 + 20 * 0, 16) j = mb (2, 13 + 20 * 0, 16) j := fun j h9 => by rw [eB, zs_ne (z2_ne (by decide))]
  have M14 : ∀ j, j ≠ 4 * b + k0 → B (2, 14 + 20 * 0, 16) j = mb (2, 14 + 20 * 0, 16) j := fun j h9 => by rw [eB, zs_ej h9]
  have M15 : ∀ j, j < 99 ∨ 99 ≤ j → B (2, 15 + 20 * 0, 4) j = mb (2, 15 + 20 * 0, 4) j := fun j h9 => by rw [eB, zs_ne (z2_ne (by decide))]
  have M16 : ∀ j, j < 99 ∨ 99 ≤ j → B (2, 16 + 20 * 0, 4) j = mb (2, 16 + 20 * 0, 4) j := fun j h9 => by rw [eB, zs_ne (z2_ne (by decide))]
  have M17 : ∀ j, j < 99 ∨ 99 ≤ j → B (2, 17 + 20 * 0, 4) j = mb (2, 17 + 20 * 0, 4) j := fun j h9 => by rw [eB, zs_ne (z2_ne (by decide))]
  have M18 : B (2, 18 + 20 * 0, 4) = mb (2, 18 + 20 * 0, 4) := by rw [eB, zs_ne (z2_ne (by decide))]
  have M19 : B (2, 19 + 20 * 0, 24) = mb (2, 19 + 20 * 0, 24) := by rw [eB, zs_ne (z2_ne (by decide))]
  have M20 : B (2, 20 + 20 * 0, 90) = mb (2, 20 + 20 * 0, 90) := by rw [eB, zs_ne (z2_ne (by decide))]
  have M21 : B (2, 21 + 20 * 0, 6) = mb (2, 21 + 20 * 0, 6) := by rw [eB, zs_ne (z2_ne (by decide))]
  have hb4 : sc b ≤ 4 := (r13 b hb).2.2.1
  obtain ⟨g1, g2, g3, g4, g5, g6, g7, g8, g9, g10, lr, lt, gr, gt, sr, st, ⟨x1, x2, x3⟩, hsum⟩ := r13 b hb
  have hnew : tB A B 0 b (sc b) (bu b) (N b) := by
    refine ⟨by rw [P4 _ _ (by omega)]; exact g1, by rw [M11 _ (by omega)]; exact g2, g3, by rw [P4 _ _ (by omega)]; exact g4, by rw [M16 _ (by omega)]; exact g5, g6, by rw [P4 _ _ (by omega), M15 _ (by omega)]; exact g7, by rw [P4 _ _ (by omega), M17 _ (by omega)]; exact g8, by rw [P4 _ _ (by omega), M18]; exact g9, fun k hk => ?_, lr, lt, gr, gt, sr, st, ⟨tO_same x1 (P7 _ (by omega)) (by rw [M19]) (by rw [M19]), tO_same x2 (P7 _ (by omega)) (by rw [M19]) (by rw [M19]), tO_same x3 (P7 _ (by omega)) (by rw [M19]) (by rw [M19])⟩, hsum⟩
    by_cases e : k = k0
    · subst e
      obtain ⟨p, q, u, y1, y2, y3, y4, y5, y6, y7, y8, y9⟩ := g10 k hk
      exact ⟨p, q, 0, by rw [eA, zs_ej (by decide)]; exact y1, by rw [eA, zs_ej (by decide)]; exact y2, by rw [eA, zs_eq rfl]; exact nI_0.symm, by rw [M12 _ (by omega)]; exact y4, by rw [M3 _ (by omega)]; exact y5, by rw [eB, zs_eq rfl]; exact nI_0.symm, y7, y8, by decide⟩
    · rw [P6 _ (by omega), M12 _ (by omega), M3 _ (by omega), M14 _ (by omega)]
      exact g10 k hk
  have hL := tL_same q3 P8 (fun _ _ _ => P7 _ (by omega)) (fun _ => P10 _ trivial) (by rw [M13 _ (by decide)]) M20
  exact ⟨q1, ⟨by rw [P1 _ (by decide)]; exact r1, by rw [M13 _ (by decide)]; exact r2, r3, by rw [P1 _ (by decide)]; exact r4, by rw [M13 _ (by decide)]; exact r5, by rw [P1 _ (by decide), M13 _ (by decide)]; exact r6, by rw [P1 _ (by decide), M13 _ (by decide)]; exact r7, by rw [P2, M10]; exact r8, fun u hu => tU_same (r9 u hu) (P7 _ (by omega)) (by rw [M21]) (by rw [M21]), ⟨_, _, hL⟩, z, N, by rw [P1 _ (by decide)]; exact r11, by rw [M13 _ (by decide)]; exact r12, fun d hd => by
    by_cases e : d = b
    · subst e
      exact hnew
    · exact tB_same (r13 d hd) (P4 _ _ (by omega)) (fun _ _ _ => P6 _ (by omega)) (fun _ _ _ => P7 _ (by omega)) (M11 _ (by omega)) (M16 _ (by omega)) (M15 _ (by omega)) (M17 _ (by omega)) (by rw [M18]) (fun _ _ _ => M12 _ (by omega)) (fun _ _ _ => M3 _ (by omega)) (fun _ _ _ => M14 _ (by omega)) (fun _ _ _ => by rw [M19]), r14⟩, hL, fun d h1 h2 => ⟨(q4 d h1 h2).1, (q4 d h1 h2).2.1, tFr_same (q4 d h1 h2).2.2 (P4 _ _ (by omega)) (fun _ _ _ => P7 _ (by omega)) (M11 _ (by omega)) (M16 _ (by omega)) (by rw [M18]) (fun _ _ _ => by rw [M19])⟩, fun d k h1 h2 h3 => by
    by_cases e : d = b
    · subst e
      rw [P6 _ (by omega)]
      exact q5 d k h1 h2 h3
    · rw [P6 _ (by omega)]
      exact q5 d k h1 h2 h3, tZ_same q6 (Nat.le_refl _) (P7 _ (by omega)) (P7 _ (by omega)) (P1 _ (by decide)) M60 (fun j _ _ => M2k j), gT_same q7 (fun d _ => P4 _ _ (by omega))⟩

theorem RQ_setBox {ma mb A B : ZM} {n bc hq f c : Nat} {sc bu : Nat → Nat} (R : RQ ma mb n bc sc bu hq f c) {b F u0 : Nat} (hb : b < bc) (hF : F ≤ 300) (hu0 : u0 < 3) (eA : A = zs (zs ma (4, 0, b) 5 (nI F)) (4, 0, b) 6 (nI u0)) (eB : B = zs (zs mb (2, 15 + 20 * 0, 4) b (nI F)) (2, 16 + 20 * 0, 4) b (nI u0)) : RQ A B n bc sc (fun d => if d = b then u0 else bu d) hq f c := by
  obtain ⟨q1, ⟨r1, r2, r3, r4, r5, r6, r7, r8, r9, -, z, N, r11, r12, r13, r14⟩, q3, q4, q5, q6, q7⟩ := R
  have P1 : ∀ j, j ≠ 99 → A (1, 0, 0) j = ma (1, 0, 0) j := fun j h9 => by rw [eA, zs_k (zk rfl), zs_k (zk rfl)]
  have P2 : A (2, 0, 24) = ma (2, 0, 24) := by rw [eA, zs_k (zk rfl), zs_k (zk rfl)]
  have P4 : ∀ w d, ¬ (w = 0 ∧ d = b) → A (4, w, d) = ma (4, w, d) := fun w d h9 => by rw [eA, zs_ne (fun e => h9 (by injection e with _ e2; injection e2 with e3 e4; exact ⟨e3, e4⟩)), zs_ne (fun e => h9 (by injection e with _ e2; injection e2 with e3 e4; exact ⟨e3, e4⟩))]
  have P6 : ∀ j, j < 99 ∨ 99 ≤ j → A (6, 0, j) = ma (6, 0, j) := fun j h9 => by rw [eA, zs_k (zk rfl), zs_k (zk rfl)]
  have P7 : ∀ o, o < 99 ∨ 99 ≤ o → A (7, 0, o) = ma (7, 0, o) := fun o h9 => by rw [eA, zs_k (zk rfl), zs_k (zk rfl)]
  have P8 : A (8, 0, 0) = ma (8, 0, 0) := by rw [eA, zs_k (zk rfl), zs_k (zk rfl)]
  have P10 : ∀ o, True → A (10, 0, o) = ma (10, 0, o) := fun o h9 => by rw [eA, zs_k (zk rfl), zs_k (zk rfl)]
  have M13 : ∀ j, j ≠ 99 → B (13, 0, 0) j = mb (13, 0, 0) j := fun j h9 => by rw [eB, zs_k (zk rfl), zs_k (zk rfl)]
  have M2k : ∀ j, B (12, 0, 0) j = mb (12, 0, 0) j := fun j => by rw [eB, zs_k (zk rfl), zs_k (zk rfl)]
  have M60 : B (2, 60, 2) = mb (2, 60, 2) := by rw [eB, zs_ne (z2_ne (by decide)), zs_ne (z2_ne (by decide))]
  have M10 : B (2, 10 + 20 * 0, 24) = mb (2, 10 + 20 * 0, 24) := by rw [eB, zs_ne (z2_ne (by decide)), zs_ne (z2_ne (by decide))]
  have M11 : ∀ j, j < 99 ∨ 99 ≤ j → B (2, 11 + 20 * 0, 4) j = mb (2, 11 + 20 * 0, 4) j := fun j h9 => by rw [eB, zs_ne (z2_ne (by decide)), zs_ne (z2_ne (by decide))]
  have M12 : ∀ j, j < 99 ∨ 99 ≤ j → B (2, 12 + 20 * 0, 16) j = mb (2, 12 + 20 * 0, 16) j := fun j h9 => by rw [eB, zs_ne (z2_ne (by decide)), zs_ne (z2_ne (by decide))]
  have M3 : ∀ j, j < 99 ∨ 99 ≤ j → B (2, 13 + 20 * 0, 16) j = mb (2, 13 + 20 * 0, 16) j := fun j h9 => by rw [eB, zs_ne (z2_ne (by decide)), zs_ne (z2_ne (by decide))]
  have M14 : ∀ j, j < 99 ∨ 99 ≤ j → B (2, 14 + 20 * 0, 16) j = mb (2, 14 + 20 * 0, 16) j := fun j h9 => by rw [eB, zs_ne (z2_ne (by decide)), zs_ne (z2_ne (by decide))]
  have M15 : ∀ j, j ≠ b → B (2, 15 + 20 * 0, 4) j = mb (2, 15 + 20 * 0, 4) j := fun j h9 => by rw [eB, zs_ne (z2_ne (by decide)), zs_ej h9]
  have M16 : ∀ j, j ≠ b → B (2, 16 + 20 * 0, 4) j = mb (2, 16 + 20 * 0, 4) j := fun j h9 => by rw [eB, zs_ej h9, zs_ne (z2_ne (by decide))]
  have M17 : ∀ j, j < 99 ∨ 99 ≤ j → B (2, 17 + 20 * 0, 4) j = mb (2, 17 + 20 * 0, 4) j := fun j h9 => by rw [eB, zs_ne (z2_ne (by decide)), zs_ne (z2_ne (by decide))]
  have M18 : B (2, 18 + 20 * 0, 4) = mb (2, 18 + 20 * 0, 4) := by rw [eB, zs_ne (z2_ne (by decide)), zs_ne (z2_ne (by decide))]
  have M19 : B (2, 19 + 20 * 0, 24) = mb (2, 19 + 20 * 0, 24) := by rw [eB, zs_ne (z2_ne (by decide)), zs_ne (z2_ne (by decide))]
  have M20 : B (2, 20 + 20 * 0, 90) = mb (2, 20 + 20 * 0, 90) := by rw [eB, zs_ne (z2_ne (by decide)), zs_ne (z2_ne (by decide))]
  have M21 : B (2, 21 + 20 * 0, 6) = mb (2, 21 + 20 * 0, 6) := by rw [eB, zs_ne (z2_ne (by decide)), zs_ne (z2_ne (by decide))]
  have P4j : ∀ j, j ≠ 5 → j ≠ 6 → A (4, 0, b) j = ma (4, 0, b) j := fun j h8 h9 => by rw [eA, zs_ej h9, zs_ej h8]
  obtain ⟨g1, g2, g3, g4, g5, g6, g7, g8, g9, g10, lr, lt, gr, gt, sr, st, ⟨x1, x2, x3⟩, hsum⟩ := r13 b hb
  have hnew : tB A B 0 b (sc b) u0 (N b) := by
    refine ⟨by rw [P4j _ (by decide) (by decide)]; exact g1, by rw [M11 _ (by omega)]; exact g2, g3, by rw [eA, zs_eq rfl], by rw [eB, zs_eq rfl], hu0, ⟨F, hF, by rw [eA, zs_ej (by decide), zs_eq rfl], by rw [eB, zs_ne (z2_ne (by decide)), zs_eq rfl]⟩, by rw [P4j _ (by decide) (by decide), M17 _ (by omega)]; exact g8, by rw [P4j _ (by decide) (by decide), M18]; exact g9, fun k hk => ?_, lr, lt, gr, gt, sr, st, ⟨tO_same x1 (P7 _ (by omega)) (by rw [M19]) (by rw [M19]), tO_same x2 (P7 _ (by omega)) (by rw [M19]) (by rw [M19]), tO_same x3 (P7 _ (by omega)) (by rw [M19]) (by rw [M19])⟩, hsum⟩
    rw [P6 _ (by omega), M12 _ (by omega), M3 _ (by omega), M14 _ (by omega)]
    exact g10 k hk
  have hL := tL_same q3 P8 (fun _ _ _ => P7 _ (by omega)) (fun _ => P10 _ trivial) (by rw [M13 _ (by decide)]) M20
  exact ⟨q1, ⟨by rw [P1 _ (by decide)]; exact r1, by rw [M13 _ (by decide)]; exact r2, r3, by rw [P1 _ (by decide)]; exact r4, by rw [M13 _ (by decide)]; exact r5, by rw [P1 _ (by decide), M13 _ (by decide)]; exact r6, by rw [P1 _ (by decide), M13 _ (by decide)]; exact r7, by rw [P2, M10]; exact r8, fun u hu => tU_same (r9 u hu) (P7 _ (by omega)) (by rw [M21]) (by rw [M21]), ⟨_, _, hL⟩, z, N, by rw [P1 _ (by decide)]; exact r11, by rw [M13 _ (by decide)]; exact r12, fun d hd => by
    show tB A B 0 d (sc d) (if d = b then u0 else bu d) (N d)
    by_cases e : d = b
    · subst e
      rw [if_pos rfl]
      exact hnew
    · rw [if_neg e]
      exact tB_same (r13 d hd) (P4 _ _ (by omega)) (fun _ _ _ => P6 _ (by omega)) (fun _ _ _ => P7 _ (by omega)) (M11 _ (by omega)) (M16 _ (by omega)) (M15 _ (by omega)) (M17 _ (by omega)) (by rw [M18]) (fun _ _ _ => M12 _ (by omega)) (fun _ _ _ => M3 _ (by omega)) (fun _ _ _ => M14 _ (by omega)) (fun _ _ _ => by rw [M19]), r14⟩, hL, fun d h1 h2 => ⟨(q4 d h1 h2).1, (if_neg (by omega)).trans (q4 d h1 h2).2.1, tFr_same (q4 d h1 h2).2.2 (P4 _ _ (by omega)) (fun _ _ _ => P7 _ (by omega)) (M11 _ (by omega)) (M16 _ (by omega)) (by rw [M18]) (fun _ _ _ => by rw [M19])⟩, fun d k h1 h2 h3 => by rw [P6 _ (by omega)]; exact q5 d k h1 h2 h3, tZ_same q6 (Nat.le_refl _) (P7 _ (by omega)) (P7 _ (by omega)) (P1 _ (by decide)) M60 (fun j _ _ => M2k j), gT_same q7 (fun d _ => P4 _ _ (by omega))⟩
