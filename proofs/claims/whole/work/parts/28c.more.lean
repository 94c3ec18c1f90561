/-! lots that come, the store, hours: side by side (by program: wip/whole/sp17.py) -/
theorem RQ_bring {ma mb A B : ZM} {n bc hq f c : Nat} {sc bu : Nat → Nat} (R : RQ ma mb n bc sc bu hq f c) {r t h : Nat} (hc : c < 30) (h1 : 1 ≤ r + t) (h2 : r + t ≤ 6000) (h3 : 1 ≤ h) (h4 : h ≤ 9) (eA : A = q_addLot ma 0 ((f + c) % 30) (nI r) (nI t) (nI h)) (eB : B = q_addLot7 mb 0 c (nI r) (nI t) (nI h)) : RQ A B n bc sc bu hq f (c + 1) := by
  obtain ⟨q1, ⟨r1, r2, r3, r4, r5, r6, r7, r8, r9, -, z, N, r11, r12, r13, r14⟩, q3, q4, q5, q6, q7⟩ := R
  have P1 : ∀ j, j ≠ 99 → A (1, 0, 0) j = ma (1, 0, 0) j := fun j h9 => by rw [eA]; unfold q_addLot q_become; rw [zs_k (zk rfl), zs_k (zk rfl), zs_k (zk rfl), zs_k (zk rfl)]
  have P2 : A (2, 0, 24) = ma (2, 0, 24) := by rw [eA]; unfold q_addLot q_become; rw [zs_k (zk rfl), zs_k (zk rfl), zs_k (zk rfl), zs_k (zk rfl)]
  have P4 : ∀ w d, d < 99 ∨ 99 ≤ d → A (4, w, d) = ma (4, w, d) := fun w d h9 => by rw [eA]; unfold q_addLot q_become; rw [zs_k (zk rfl), zs_k (zk rfl), zs_k (zk rfl), zs_k (zk rfl)]
  have P6 : ∀ j, j < 99 ∨ 99 ≤ j → A (6, 0, j) = ma (6, 0, j) := fun j h9 => by rw [eA]; unfold q_addLot q_become; rw [zs_k (zk rfl), zs_k (zk rfl), zs_k (zk rfl), zs_k (zk rfl)]
  have P7 : ∀ o, o ≠ 12 + (f + c) % 30 → A (7, 0, o) = ma (7, 0, o) := fun o h9 => by rw [eA]; unfold q_addLot q_become; rw [zs_k (zk rfl), zs_k (zk rfl), zs_ne (z7_ne h9), zs_ne (z7_ne h9)]
  have P10 : ∀ o, o ≠ (f + c) % 30 → A (10, 0, o) = ma (10, 0, o) := fun o h9 => by rw [eA]; unfold q_addLot q_become; rw [zs_k (zk rfl), zs_ne (fun e => h9 (by injection e with _ e2; injection e2)), zs_k (zk rfl), zs_k (zk rfl)]
  have M13 : ∀ j, j ≠ 14 → B (13, 0, 0) j = mb (13, 0, 0) j := fun j h9 => by rw [eB]; unfold q_addLot7; rw [zs_ej h9, zs_k (zk rfl), zs_k (zk rfl), zs_k (zk rfl)]
  have M2k : ∀ j, B (12, 0, 0) j = mb (12, 0, 0) j := fun j => by rw [eB]; unfold q_addLot7; rw [zs_k (zk rfl), zs_k (zk rfl), zs_k (zk rfl), zs_k (zk rfl)]
  have M60 : B (2, 60, 2) = mb (2, 60, 2) := by rw [eB]; unfold q_addLot7; rw [zs_k (zk rfl), zs_ne (z2_ne (by decide)), zs_ne (z2_ne (by decide)), zs_ne (z2_ne (by decide))]
  have M10 : B (2, 10 + 20 * 0, 24) = mb (2, 10 + 20 * 0, 24) := by rw [eB]; unfold q_addLot7; rw [zs_k (zk rfl), zs_ne (z2_ne (by decide)), zs_ne (z2_ne (by decide)), zs_ne (z2_ne (by decide))]
  have M11 : ∀ j, j < 99 ∨ 99 ≤ j → B (2, 11 + 20 * 0, 4) j = mb (2, 11 + 20 * 0, 4) j := fun j h9 => by rw [eB]; unfold q_addLot7; rw [zs_k (zk rfl), zs_ne (z2_ne (by decide)), zs_ne (z2_ne (by decide)), zs_ne (z2_ne (by decide))]
  have M12 : ∀ j, j < 99 ∨ 99 ≤ j → B (2, 12 + 20 * 0, 16) j = mb (2, 12 + 20 * 0, 16) j := fun j h9 => by rw [eB]; unfold q_addLot7; rw [zs_k (zk rfl), zs_ne (z2_ne (by decide)), zs_ne (z2_ne (by decide)), zs_ne (z2_ne (by decide))]
  have M3 : ∀ j, j < 99 ∨ 99 ≤ j → B (2, 13 + 20 * 0, 16) j = mb (2, 13 + 20 * 0, 16) j := fun j h9 => by rw [eB]; unfold q_addLot7; rw [zs_k (zk rfl), zs_ne (z2_ne (by decide)), zs_ne (z2_ne (by decide)), zs_ne (z2_ne (by decide))]
  have M14 : ∀ j, j < 99 ∨ 99 ≤ j → B (2, 14 + 20 * 0, 16) j = mb (2, 14 + 20 * 0, 16) j := fun j h9 => by rw [eB]; unfold q_addLot7; rw [zs_k (zk rfl), zs_ne (z2_ne (by decide)), zs_ne (z2_ne (by decide)), zs_ne (z2_ne (by decide))]
  have M15 : ∀ j, j < 99 ∨ 99 ≤ j → B (2, 15 + 20 * 0, 4) j = mb (2, 15 + 20 * 0, 4) j := fun j h9 => by rw [eB]; unfold q_addLot7; rw [zs_k (zk rfl), zs_ne (z2_ne (by decide)), zs_ne (z2_ne (by decide)), zs_ne (z2_ne (by decide))]
  have M16 : ∀ j, j < 99 ∨ 99 ≤ j → B (2, 16 + 20 * 0, 4) j = mb (2, 16 + 20 * 0, 4) j := fun j h9 => by rw [eB]; unfold q_addLot7; rw [zs_k (zk rfl), zs_ne (z2_ne (by decide)), zs_ne (z2_ne (by decide)), zs_ne (z2_ne (by decide))]
  have M17 : ∀ j, j < 99 ∨ 99 ≤ j → B (2, 17 + 20 * 0, 4) j = mb (2, 17 + 20 * 0, 4) j := fun j h9 => by rw [eB]; unfold q_addLot7; rw [zs_k (zk rfl), zs_ne (z2_ne (by decide)), zs_ne (z2_ne (by decide)), zs_ne (z2_ne (by decide))]
  have M18 : B (2, 18 + 20 * 0, 4) = mb (2, 18 + 20 * 0, 4) := by rw [eB]; unfold q_addLot7; rw [zs_k (zk rfl), zs_ne (z2_ne (by decide)), zs_ne (z2_ne (by decide)), zs_ne (z2_ne (by decide))]
  have M19 : B (2, 19 + 20 * 0, 24) = mb (2, 19 + 20 * 0, 24) := by rw [eB]; unfold q_addLot7; rw [zs_k (zk rfl), zs_ne (z2_ne (by decide)), zs_ne (z2_ne (by decide)), zs_ne (z2_ne (by decide))]
  have M21 : B (2, 21 + 20 * 0, 6) = mb (2, 21 + 20 * 0, 6) := by rw [eB]; unfold q_addLot7; rw [zs_k (zk rfl), zs_ne (z2_ne (by decide)), zs_ne (z2_ne (by decide)), zs_ne (z2_ne (by decide))]
  have M20o : ∀ j, j < 3 * c → B (2, 20 + 20 * 0, 90) j = mb (2, 20 + 20 * 0, 90) j := fun j hj => by rw [eB]; unfold q_addLot7; rw [zs_k (zk rfl), zs_ej (by omega), zs_ej (by omega), zs_ej (by omega)]
  have hL0 : tL A B 0 f (c + 1) := by
    obtain ⟨k1, k2, k3, k4, k5, k6⟩ := q3
    refine ⟨?_, k2, ?_, ?_, hc, fun j hj => ?_⟩
    · rw [eA]; unfold q_addLot q_become; rw [zs_ej (by decide), zs_k (zk rfl), zs_k (zk rfl), zs_k (zk rfl)]; exact k1
    · rw [eA]; unfold q_addLot q_become; rw [zs_eq rfl, zs_k (zk rfl), zs_k (zk rfl), zs_k (zk rfl), k3, nI_1]
    · rw [eB]; unfold q_addLot7; rw [zs_eq rfl, zs_k (zk rfl), zs_k (zk rfl), zs_k (zk rfl), k4, nI_1]
    · by_cases e : j = c
      · subst e
        refine ⟨r, t, h, ?_, ?_, ?_, ?_, ?_, ?_, h1, h2, h3, h4⟩
        · rw [eA]; unfold q_addLot q_become; rw [zs_k (zk rfl), zs_k (zk rfl), zs_ej (by decide), zs_eq rfl]
        · rw [eA]; unfold q_addLot q_become; rw [zs_k (zk rfl), zs_k (zk rfl), zs_eq rfl]
        · rw [eA]; unfold q_addLot q_become; rw [zs_k (zk rfl), zs_eq rfl]
        · rw [eB]; unfold q_addLot7; rw [zs_k (zk rfl), zs_ej (by omega), zs_ej (by omega), zs_eq rfl]
        · rw [eB]; unfold q_addLot7; rw [zs_k (zk rfl), zs_ej (by omega), zs_eq rfl]
        · rw [eB]; unfold q_addLot7; rw [zs_k (zk rfl), zs_eq rfl]
      · rw [P7 _ (by omega), P10 _ (by omega), M20o _ (by omega), M20o _ (by omega), M20o _ (by omega)]
        exact k6 j (by omega)
  have hL := hL0
  exact ⟨q1, ⟨by rw [P1 _ (by decide)]; exact r1, by rw [M13 _ (by decide)]; exact r2, r3, by rw [P1 _ (by decide)]; exact r4, by rw [M13 _ (by decide)]; exact r5, by rw [P1 _ (by decide), M13 _ (by decide)]; exact r6, by rw [P1 _ (by decide), M13 _ (by decide)]; exact r7, by rw [P2, M10]; exact r8, fun u hu => tU_same (r9 u hu) (P7 _ (by omega)) (by rw [M21]) (by rw [M21]), ⟨_, _, hL⟩, z, N, by rw [P1 _ (by decide)]; exact r11, by rw [M13 _ (by decide)]; exact r12, fun d hd => tB_same (r13 d hd) (P4 _ _ (by omega)) (fun _ _ _ => P6 _ (by omega)) (fun _ _ _ => P7 _ (by omega)) (M11 _ (by omega)) (M16 _ (by omega)) (M15 _ (by omega)) (M17 _ (by omega)) (by rw [M18]) (fun _ _ _ => M12 _ (by omega)) (fun _ _ _ => M3 _ (by omega)) (fun _ _ _ => M14 _ (by omega)) (fun _ _ _ => by rw [M19]), r14⟩, hL, fun d h1 h2 => ⟨(q4 d h1 h2).1, (q4 d h1 h2).2.1, tFr_same (q4 d h1 h2).2.2 (P4 _ _ (by omega)) (fun _ _ _ => P7 _ (by omega)) (M11 _ (by omega)) (M16 _ (by omega)) (by rw [M18]) (fun _ _ _ => by rw [M19])⟩, fun d k h1 h2 h3 => by rw [P6 _ (by omega)]; exact q5 d k h1 h2 h3, tZ_same q6 (Nat.le_refl _) (P7 _ (by omega)) (P7 _ (by omega)) (P1 _ (by decide)) M60 (fun j _ _ => M2k j), gT_same q7 (fun d _ => P4 _ _ (by omega))⟩

theorem RQ_ZU {ma mb A B : ZM} {n bc hq f c : Nat} {sc bu : Nat → Nat} (R : RQ ma mb n bc sc bu hq f c) {u n2 : Nat} (hu : u < 3) (hZ : tZ A B n2) (hU : tU A B 0 u) (aK : ∀ k : ZN, k ≠ (7, 0, 45) → k ≠ (7, 0, 46) → k ≠ (7, 0, 42 + u) → k ≠ (1, 0, 0) → A k = ma k) (a1 : ∀ j, j ≠ 11 → A (1, 0, 0) j = ma (1, 0, 0) j) (bK : ∀ k : ZN, k ≠ (2, 60, 2) → k ≠ (12, 0, 0) → k ≠ (2, 21 + 20 * 0, 6) → B k = mb k) (b21 : ∀ j, j ≠ 2 * u → j ≠ 2 * u + 1 → B (2, 21 + 20 * 0, 6) j = mb (2, 21 + 20 * 0, 6) j) : RQ A B n2 bc sc bu hq f c := by
  obtain ⟨q1, ⟨r1, r2, r3, r4, r5, r6, r7, r8, r9, -, z, N, r11, r12, r13, r14⟩, q3, q4, q5, q6, q7⟩ := R
  have xk : ∀ (k : ZN) (k2 a b : Nat), k.1 ≠ k2 → k ≠ (k2, a, b) := fun k k2 a b hk e => hk (by rw [e])
  have P1 : ∀ j, j ≠ 11 → A (1, 0, 0) j = ma (1, 0, 0) j := fun j h9 => by exact a1 _ h9
  have P2 : A (2, 0, 24) = ma (2, 0, 24) := by exact aK _ (xk _ _ _ _ (zk rfl)) (xk _ _ _ _ (zk rfl)) (xk _ _ _ _ (zk rfl)) (xk _ _ _ _ (zk rfl))
  have P4 : ∀ w d, d < 99 ∨ 99 ≤ d → A (4, w, d) = ma (4, w, d) := fun w d h9 => by exact aK _ (xk _ _ _ _ (zk rfl)) (xk _ _ _ _ (zk rfl)) (xk _ _ _ _ (zk rfl)) (xk _ _ _ _ (zk rfl))
  have P6 : ∀ j, j < 99 ∨ 99 ≤ j → A (6, 0, j) = ma (6, 0, j) := fun j h9 => by exact aK _ (xk _ _ _ _ (zk rfl)) (xk _ _ _ _ (zk rfl)) (xk _ _ _ _ (zk rfl)) (xk _ _ _ _ (zk rfl))
  have P7 : ∀ o, o ≠ 45 ∧ o ≠ 46 ∧ o ≠ 42 + u → A (7, 0, o) = ma (7, 0, o) := fun o h9 => by exact aK _ (z7_ne h9.1) (z7_ne h9.2.1) (z7_ne h9.2.2) (xk _ _ _ _ (zk rfl))
  have P8 : A (8, 0, 0) = ma (8, 0, 0) := by exact aK _ (xk _ _ _ _ (zk rfl)) (xk _ _ _ _ (zk rfl)) (xk _ _ _ _ (zk rfl)) (xk _ _ _ _ (zk rfl))
  have P10 : ∀ o, True → A (10, 0, o) = ma (10, 0, o) := fun o h9 => by exact aK _ (xk _ _ _ _ (zk rfl)) (xk _ _ _ _ (zk rfl)) (xk _ _ _ _ (zk rfl)) (xk _ _ _ _ (zk rfl))
  have M13 : ∀ j, j ≠ 99 → B (13, 0, 0) j = mb (13, 0, 0) j := fun j h9 => by rw [bK _ (xk _ _ _ _ (zk rfl)) (xk _ _ _ _ (zk rfl)) (xk _ _ _ _ (zk rfl))]
  have M10 : B (2, 10 + 20 * 0, 24) = mb (2, 10 + 20 * 0, 24) := by rw [bK _ (z2_ne (by decide)) (xk _ _ _ _ (zk rfl)) (z2_ne (by decide))]
  have M11 : ∀ j, j < 99 ∨ 99 ≤ j → B (2, 11 + 20 * 0, 4) j = mb (2, 11 + 20 * 0, 4) j := fun j h9 => by rw [bK _ (z2_ne (by decide)) (xk _ _ _ _ (zk rfl)) (z2_ne (by decide))]
  have M12 : ∀ j, j < 99 ∨ 99 ≤ j → B (2, 12 + 20 * 0, 16) j = mb (2, 12 + 20 * 0, 16) j := fun j h9 => by rw [bK _ (z2_ne (by decide)) (xk _ _ _ _ (zk rfl)) (z2_ne (by decide))]
  have M3 : ∀ j, j < 99 ∨ 99 ≤ j → B (2, 13 + 20 * 0, 16) j = mb (2, 13 + 20 * 0, 16) j := fun j h9 => by rw [bK _ (z2_ne (by decide)) (xk _ _ _ _ (zk rfl)) (z2_ne (by decide))]
  have M14 : ∀ j, j < 99 ∨ 99 ≤ j → B (2, 14 + 20 * 0, 16) j = mb (2, 14 + 20 * 0, 16) j := fun j h9 => by rw [bK _ (z2_ne (by decide)) (xk _ _ _ _ (zk rfl)) (z2_ne (by decide))]
  have M15 : ∀ j, j < 99 ∨ 99 ≤ j → B (2, 15 + 20 * 0, 4) j = mb (2, 15 + 20 * 0, 4) j := fun j h9 => by rw [bK _ (z2_ne (by decide)) (xk _ _ _ _ (zk rfl)) (z2_ne (by decide))]
  have M16 : ∀ j, j < 99 ∨ 99 ≤ j → B (2, 16 + 20 * 0, 4) j = mb (2, 16 + 20 * 0, 4) j := fun j h9 => by rw [bK _ (z2_ne (by decide)) (xk _ _ _ _ (zk rfl)) (z2_ne (by decide))]
  have M17 : ∀ j, j < 99 ∨ 99 ≤ j → B (2, 17 + 20 * 0, 4) j = mb (2, 17 + 20 * 0, 4) j := fun j h9 => by rw [bK _ (z2_ne (by decide)) (xk _ _ _ _ (zk rfl)) (z2_ne (by decide))]
  have M18 : B (2, 18 + 20 * 0, 4) = mb (2, 18 + 20 * 0, 4) := by rw [bK _ (z2_ne (by decide)) (xk _ _ _ _ (zk rfl)) (z2_ne (by decide))]
  have M19 : B (2, 19 + 20 * 0, 24) = mb (2, 19 + 20 * 0, 24) := by rw [bK _ (z2_ne (by decide)) (xk _ _ _ _ (zk rfl)) (z2_ne (by decide))]
  have M20 : B (2, 20 + 20 * 0, 90) = mb (2, 20 + 20 * 0, 90) := by rw [bK _ (z2_ne (by decide)) (xk _ _ _ _ (zk rfl)) (z2_ne (by decide))]
  have hL := tL_same q3 P8 (fun _ _ _ => P7 _ (by omega)) (fun _ => P10 _ trivial) (by rw [M13 _ (by decide)]) M20
  exact ⟨q1, ⟨by rw [P1 _ (by decide)]; exact r1, by rw [M13 _ (by decide)]; exact r2, r3, by rw [P1 _ (by decide)]; exact r4, by rw [M13 _ (by decide)]; exact r5, by rw [P1 _ (by decide), M13 _ (by decide)]; exact r6, by rw [P1 _ (by decide), M13 _ (by decide)]; exact r7, by rw [P2, M10]; exact r8, fun v hv => by
    by_cases e : v = u
    · subst e; exact hU
    · exact tU_same (r9 v hv) (P7 _ (by omega)) (b21 _ (by omega) (by omega)) (b21 _ (by omega) (by omega)), ⟨_, _, hL⟩, z, N, by rw [P1 _ (by decide)]; exact r11, by rw [M13 _ (by decide)]; exact r12, fun d hd => tB_same (r13 d hd) (P4 _ _ (by omega)) (fun _ _ _ => P6 _ (by omega)) (fun _ _ _ => P7 _ (by omega)) (M11 _ (by omega)) (M16 _ (by omega)) (M15 _ (by omega)) (M17 _ (by omega)) (by rw [M18]) (fun _ _ _ => M12 _ (by omega)) (fun _ _ _ => M3 _ (by omega)) (fun _ _ _ => M14 _ (by omega)) (fun _ _ _ => by rw [M19]), r14⟩, hL, fun d h1 h2 => ⟨(q4 d h1 h2).1, (q4 d h1 h2).2.1, tFr_same (q4 d h1 h2).2.2 (P4 _ _ (by omega)) (fun _ _ _ => P7 _ (by omega)) (M11 _ (by omega)) (M16 _ (by omega)) (by rw [M18]) (fun _ _ _ => by rw [M19])⟩, fun d k h1 h2 h3 => by rw [P6 _ (by omega)]; exact q5 d k h1 h2 h3, hZ, gT_same q7 (fun d _ => P4 _ _ (by omega))⟩

theorem q_work_4d {m : ZM} {w b cn ub d : Nat} {x t : Int32} (h : d ≠ b) : q_work m w b cn ub x t (4, w, d) = m (4, w, d) := by
  have e : ∀ o, ((4, w, d) : ZN) ≠ (7, w, o) := fun o e => by injection e with e1; exact absurd e1 (by decide)
  unfold q_work q_grate q_slimeM
  rw [q_wearS_k (zk rfl), q_move_k (zk rfl) (zk rfl), zs_k (zk rfl), zs_k (zk rfl), q_blow_ne (z4b_ne h) (e _) (e _) (e _), zs_ne (z4b_ne h), q_feed_k rfl (zk rfl) (zk rfl)]
theorem q_work_6 {m : ZM} {w b cn ub j : Nat} {x t : Int32} (h : ¬ (4 * b ≤ j ∧ j < 4 * b + cn)) : q_work m w b cn ub x t (6, w, j) = m (6, w, j) := by
  unfold q_work q_grate q_slimeM
  rw [q_wearS_6o h, q_move_k (zk rfl) (zk rfl), zs_k (zk rfl), zs_k (zk rfl), q_blow_k (zk rfl) (zk rfl), zs_k (zk rfl), q_feed_k rfl (zk rfl) (zk rfl)]
theorem q_boxes_4 {m : ZM} {w n d : Nat} {sc bu : Nat → Nat} {x t : Int32} (h : n ≤ d) : q_boxes m w sc bu x t n (4, w, d) = m (4, w, d) := by
  induction n with
  | zero => rfl
  | succ n ih => rw [q_boxes, q_work_4d (by omega), ih (by omega)]
theorem q_boxes_6 {m : ZM} {w n j : Nat} {sc bu : Nat → Nat} {x t : Int32} (h : ∀ b, b < n → ¬ (4 * b ≤ j ∧ j < 4 * b + sc b)) : q_boxes m w sc bu x t n (6, w, j) = m (6, w, j) := by
  induction n with
  | zero => rfl
  | succ n ih => rw [q_boxes, q_work_6 (h n (by omega)), ih (fun b hb => h b (by omega))]
theorem q_pass_4 {m : ZM} {w bc hq n d : Nat} {sc bu : Nat → Nat} (h : bc ≤ d) : q_passM m w bc sc bu hq n (4, w, d) = m (4, w, d) := by
  induction n with
  | zero => rfl
  | succ n ih =>
    rw [q_passM]
    unfold q_hourM q_takeM
    rw [zs_k (zk rfl), q_boxes_4 h, zs_k (zk rfl), ih]
theorem q_pass_6 {m : ZM} {w bc hq n j : Nat} {sc bu : Nat → Nat} (h : ∀ b, b < bc → ¬ (4 * b ≤ j ∧ j < 4 * b + sc b)) : q_passM m w bc sc bu hq n (6, w, j) = m (6, w, j) := by
  induction n with
  | zero => rfl
  | succ n ih =>
    rw [q_passM]
    unfold q_hourM q_takeM
    rw [zs_k (zk rfl), q_boxes_6 h, zs_k (zk rfl), ih]
theorem q_pass_1 {m : ZM} {w bc hq n j : Nat} {sc bu : Nat → Nat} (h : j ≠ 6) (h2 : j ≠ 7) (h3 : j ≠ 10) : q_passM m w bc sc bu hq n (1, w, 0) j = m (1, w, 0) j := by
  induction n with
  | zero => rfl
  | succ n ih =>
    rw [q_passM]
    unfold q_hourM q_takeM
    rw [zs_ej h, q_boxes_1 h3, zs_ej h2, ih]
theorem q_eat_19 {w b n k : Nat} (h : k ≠ 6 * b) (h2 : k ≠ 6 * b + 1) : ∀ {m : ZM} {a : Int32}, q_eat w b n m a (2, 19 + 20 * w, 24) k = m (2, 19 + 20 * w, 24) k := by
  induction n with
  | zero => intro m a; rfl
  | succ n ih =>
    intro m a
    rw [q_eat]
    split
    · rfl
    split
    · rfl
    refine (ih).trans ?_
    have e : ∀ u : ZM, u = q_mv (zs m (2, 17 + 20 * w, 4) b (m (2, 20 + 20 * w, 90) 2)) (2, 20 + 20 * w, 90) 0 (2, 19 + 20 * w, 24) (6 * b) (q_min a (q_pair m (2, 20 + 20 * w, 90) 0)) → u (2, 19 + 20 * w, 24) k = m (2, 19 + 20 * w, 24) k := by
      intro u hu
      rw [hu, q_mv_o (fun q => absurd q.1 (z2_ne (by omega))) (by omega), zs_ne (z2_ne (by omega))]
    split
    · exact e _ rfl
    · unfold q_drop7
      rw [q_shift_ne (z2_ne (by omega)), zs_k (zk rfl)]
      exact e _ rfl
theorem q_box7_18 {m : ZM} {w b cn g d : Nat} {x t : Int32} (h : d ≠ b) : q_box7 m w b cn g x t (2, 18 + 20 * w, 4) d = m (2, 18 + 20 * w, 4) d := by
  unfold q_box7 q_blow7
  rw [q_wear7_ne (z2_ne (by omega)), q_mv_ne (z2_ne (by omega)) (z2_ne (by omega)), zs_k (zk rfl), zs_ne (z2_ne (by omega)), q_mv_ne (z2_ne (by omega)) (z2_ne (by omega)), q_mv_ne (z2_ne (by omega)) (z2_ne (by omega)), t_fs7_o h, q_eat_ne (z2_ne (by omega)) (z2_ne (by omega)) (z2_ne (by omega)) (zk rfl)]
theorem q_box7_19 {m : ZM} {w b cn g j : Nat} {x t : Int32} (h : j < 6 * b ∨ 6 * b + 6 ≤ j) : q_box7 m w b cn g x t (2, 19 + 20 * w, 24) j = m (2, 19 + 20 * w, 24) j := by
  unfold q_box7 q_blow7
  rw [q_wear7_ne (z2_ne (by omega)), q_mv_o (by omega) (fun q => absurd q.1 (z2_ne (by omega))), zs_k (zk rfl), zs_ej (by omega), q_mv_o (by omega) (by omega), q_mv_o (by omega) (by omega), q_fs7_k (z2_ne (by omega)), q_eat_19 (by omega) (by omega)]
theorem q_boxes7_18 {m : ZM} {w n d : Nat} {sc go : Nat → Nat} {x t : Int32} (h : n ≤ d) : q_boxes7 m w sc go x t n (2, 18 + 20 * w, 4) d = m (2, 18 + 20 * w, 4) d := by
  induction n with
  | zero => rfl
  | succ n ih => rw [q_boxes7, q_box7_18 (by omega), ih (by omega)]
theorem q_boxes7_19 {m : ZM} {w n j : Nat} {sc go : Nat → Nat} {x t : Int32} (h : 6 * n ≤ j) : q_boxes7 m w sc go x t n (2, 19 + 20 * w, 24) j = m (2, 19 + 20 * w, 24) j := by
  induction n with
  | zero => rfl
  | succ n ih => rw [q_boxes7, q_box7_19 (by omega), ih (by omega)]
theorem q_run7_18 {m : ZM} {w bc hq n d : Nat} {sc go : Nat → Nat} (h : bc ≤ d) : q_runM7 m w bc sc go hq n (2, 18 + 20 * w, 4) d = m (2, 18 + 20 * w, 4) d := by
  induction n with
  | zero => rfl
  | succ n ih =>
    rw [q_runM7]
    unfold q_pass7 q_take7 q_pond7
    rw [zs_k (zk rfl), q_boxes7_18 h, zs_k (zk rfl), zs_k (zk rfl), ih]
theorem q_run7_19 {m : ZM} {w bc hq n j : Nat} {sc go : Nat → Nat} (h : 6 * bc ≤ j) : q_runM7 m w bc sc go hq n (2, 19 + 20 * w, 24) j = m (2, 19 + 20 * w, 24) j := by
  induction n with
  | zero => rfl
  | succ n ih =>
    rw [q_runM7]
    unfold q_pass7 q_take7 q_pond7
    rw [zs_k (zk rfl), q_boxes7_19 h, zs_k (zk rfl), zs_k (zk rfl), ih]
/-- what hours leave as it is, in the reference -/
theorem q_run7_ne {m : ZM} {w bc hq n : Nat} {sc go : Nat → Nat} {k : ZN} (h13 : k.1 ≠ 13) (h : k.1 ≠ 2 ∨ k.2.1 < 14 + 20 * w ∨ k.2.1 = 15 + 20 * w ∨ k.2.1 = 16 + 20 * w ∨ 22 + 20 * w ≤ k.2.1) : q_runM7 m w bc sc go hq n k = m k := by
  have e : ∀ a len : Nat, (a = 14 ∨ a = 17 ∨ a = 18 ∨ a = 19 ∨ a = 20 ∨ a = 21) → k ≠ (2, a + 20 * w, len) := fun a len ha e => by
    rw [e] at h
    rcases h with h | h | h | h | h
    · exact h rfl
    · have h : a + 20 * w < 14 + 20 * w := h; omega
    · have h : a + 20 * w = 15 + 20 * w := h; omega
    · have h : a + 20 * w = 16 + 20 * w := h; omega
    · have h : 22 + 20 * w ≤ a + 20 * w := h; omega
  have e2 : ∀ (n : Nat) (x t : Int32) (m : ZM), q_boxes7 m w sc go x t n k = m k := by
    intro n x t m
    induction n with
    | zero => rfl
    | succ n ih => rw [q_boxes7, q_box7_ne (e _ _ (by decide)) (e _ _ (by decide)) (e _ _ (by decide)) (e _ _ (by decide)) h13, q_eat_ne (e _ _ (by decide)) (e _ _ (by decide)) (e _ _ (by decide)) h13, ih]
  induction n with
  | zero => rfl
  | succ n ih =>
    rw [q_runM7]
    unfold q_pass7 q_take7 q_pond7
    rw [zs_k h13, e2, zs_k h13, zs_k h13, ih]
theorem RQ_run {ma mb : ZM} {n bc hq f c : Nat} {sc bu : Nat → Nat} (R : RQ ma mb n bc sc bu hq f c) {k : Nat} (hk : hq + k ≤ 5000) : q_passT ma 0 bc sc bu hq k = q_runT7 mb 0 bc sc bu hq k ∧ ∃ f' c', RQ (q_passM ma 0 bc sc bu hq k) (q_runM7 mb 0 bc sc bu hq k) n bc sc bu (hq + k) f' c' := by
  obtain ⟨q1, q2, q3, q4, q5, q6, q7⟩ := R
  obtain ⟨h1, h2, h3⟩ := t_pass (sc' := sc) (go := bu) q2 (fun _ _ => ⟨rfl, rfl⟩) k hk
  have hbc : bc ≤ 4 := q2.2.2.1
  have h4 := h1.2.2.2.2.2.2.2.2.2.1
  obtain ⟨f', c', hL⟩ := h4
  have hsc : ∀ b, b < bc → sc b ≤ 4 := fun b hb => by
    obtain ⟨z, N, -, -, h, -⟩ := q2.2.2.2.2.2.2.2.2.2.2
    exact (h b hb).2.2.1
  refine ⟨h2, f', c', hk, h1, hL, fun b b1 b2 => ?_, fun b j b1 b2 b3 => ?_, ?_, ?_⟩
  · obtain ⟨g1, g2, g3⟩ := q4 b b1 b2
    exact ⟨g1, g2, tFr_same g3 (q_pass_4 b1) (fun o o1 o2 => h3 o (by omega)) (by rw [q_run7_ne (zk rfl) (Or.inr (Or.inl (by show 11 + 20 * 0 < _; decide)))]) (by rw [q_run7_ne (zk rfl) (Or.inr (Or.inr (Or.inr (Or.inl rfl))))]) (q_run7_18 b1) (fun j j1 j2 => q_run7_19 (by omega))⟩
  · rw [q_pass_6 (fun d hd => ?_)]
    · exact q5 b j b1 b2 b3
    · have := hsc d hd
      intro q
      have e : d = b := by omega
      subst e
      omega
  · exact tZ_same q6 (Nat.le_refl _) (h3 _ (by omega)) (h3 _ (by omega)) (q_pass_1 (by decide) (by decide) (by decide)) (q_run7_ne (zk rfl) (Or.inr (Or.inr (Or.inr (Or.inr (by show 22 + 20 * 0 ≤ 60; decide)))))) (fun j _ _ => by rw [q_run7_ne (zk rfl) (Or.inl (zk rfl))])
  · exact gT_same q7 (fun b _ => zf_pass zf_rf _ (fun h => by
      rcases h with ⟨h, -⟩ | h
      · exact absurd h (by show ¬ (1 : Nat) = 0; decide)
      · injection h with h5; exact absurd h5 (by decide)))
theorem RQ_up {ma mb : ZM} {n n2 bc hq f c : Nat} {sc bu : Nat → Nat} (R : RQ ma mb n bc sc bu hq f c) (h : n ≤ n2) : RQ ma mb n2 bc sc bu hq f c := RQ_fr R h (fun _ _ => rfl) R.2.2.2.2.2.2 (fun _ _ => rfl) rfl (fun _ _ _ => rfl)
theorem RQ_z {ma mb : ZM} {n bc hq f c : Nat} {sc bu : Nat → Nat} (R : RQ ma mb n bc sc bu hq f c) : RQ ma (q8_z mb) n bc sc bu hq f c := RQ_fr R (Nat.le_refl _) (fun _ _ => rfl) R.2.2.2.2.2.2 (fun k hk => zs_ne (fun e => by
    rcases hk with h | ⟨h, -⟩
    · rw [e] at h; injection h with h1; exact absurd h1 (by decide)
    · rw [e] at h; exact absurd h (by decide))) (zs_k (zk rfl)) (fun j h1 _ => zs_ej (by omega))
