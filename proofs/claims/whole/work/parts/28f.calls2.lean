/-! run, again, wash, smelt: side by side -/
theorem q_become_ne {m : ZM} {n k : ZN} {a b : Int32} (h : k ≠ n) : q_become m n a b k = m k := by
  unfold q_become
  rw [zs_ne h, zs_ne h]
theorem q_become_0 {m : ZM} {n : ZN} {a b : Int32} : q_become m n a b n 0 = a := by
  unfold q_become
  rw [zs_ej (by decide), zs_eq rfl]
theorem q_become_1 {m : ZM} {n : ZN} {a b : Int32} : q_become m n a b n 1 = b := by
  unfold q_become
  rw [zs_eq rfl]
theorem q_addLot_7 {m : ZM} {w j o : Nat} {x y h : Int32} (ho : o ≠ 12 + j) : q_addLot m w j x y h (7, w, o) = m (7, w, o) := by
  unfold q_addLot
  rw [zs_k (zk rfl), zs_k (zk rfl), q_become_ne (z7_ne ho)]
theorem q_addLot_c {M m : ZM} {j : Nat} {x y h : Int32} {k : ZN} (e : M k = m k) (e8 : M (8, 0, 0) = m (8, 0, 0)) : q_addLot M 0 j x y h k = q_addLot m 0 j x y h k := by
  unfold q_addLot q_become
  rw [zs_k (m := zs _ _ _ _) (n := (10, 0, j)) (k := (8, 0, 0)) (zk rfl), zs_k (n := (7, 0, 12 + j)) (k := (8, 0, 0)) (zk rfl), zs_k (n := (7, 0, 12 + j)) (k := (8, 0, 0)) (zk rfl), zs_k (m := zs _ _ _ _) (n := (10, 0, j)) (k := (8, 0, 0)) (zk rfl), zs_k (n := (7, 0, 12 + j)) (k := (8, 0, 0)) (zk rfl), zs_k (n := (7, 0, 12 + j)) (k := (8, 0, 0)) (zk rfl), e8]
  exact zs_cong (zs_cong (zs_cong (zs_cong e)))
section TW
variable {ma mb : ZM} {n bc hq f c : Nat} {sc bu : Nat → Nat}
set_option maxHeartbeats 2000000 in
theorem RQ_again (R : RQ ma mb n bc sc bu hq f c) (hn : n < 512) {u : Nat} (hu : u < 3) : ∃ X a, 6000 - q_whole ma (7, 0, 42 + u) = nI X ∧ q_moveR ma (7, 0, 45) (nI X) = nI a ∧ q8_againP mb u = nI a ∧ RQ (q_move ma (7, 0, 45) (7, 0, 42 + u) (nI X)) (q_mv mb (2, 60, 2) 0 (2, 21 + 20 * 0, 6) (2 * u) (nI a)) n bc sc bu hq f c := by
  obtain ⟨br, bt, u1, u2, u3, u4, u5⟩ := rq_bud R hu
  obtain ⟨sr, st, tr, tt, mt, z1, z2, z3, z4, z5, z6, z7, z8, z9, z10, z11⟩ := R.2.2.2.2.2.1
  obtain ⟨X, eX⟩ : ∃ X, X = 6000 - (br + bt) := ⟨_, rfl⟩
  obtain ⟨a, ea⟩ : ∃ a, a = min X (sr + st) := ⟨_, rfl⟩
  have lT := tT_t (r := sr) (t := st) (a := a) (by omega)
  have lA := tT_a (r := sr) (t := st) (a := a)
  have lR := tT_r (r := sr) (t := st) (a := a) (by omega)
  have e60 : (6000 : Int32) - nI (br + bt) = nI X := by rw [eX]; exact pk_sub (a := 6000) u1
  have nv : ((7, 0, 45) : ZN) ≠ (7, 0, 42 + u) := z7_ne (by omega)
  have nv2 : ((2, 60, 2) : ZN) ≠ (2, 21 + 20 * 0, 6) := z2_ne (by decide)
  obtain ⟨s0, s1, s2, s3, s4⟩ := t_move (X := X) (a := a) nv z1 z2 u2 u3 (by omega) (by omega) ea
  obtain ⟨w1, w2, w3, w4⟩ := t_mvd (i := 0) (a := a) nv2 z3 z4 u4 u5 (by omega) (by omega)
  refine ⟨X, a, ?_, s0, ?_, ?_⟩
  · unfold q_whole
    rw [u2, u3, nI_add, e60]
  · unfold q8_againP q_pair
    rw [z3, z4, u4, u5, nI_add, nI_add, e60, t_min (by omega) (by omega), Nat.min_comm, ← ea]
  · refine RQ_ZU R hu ⟨sr - (a - tT sr st a), st - tT sr st a, tr, tt, mt, s1, s2, w1, w2, ?_, ?_, ?_, ?_, ?_, ?_, by omega⟩ ⟨br + (a - tT sr st a), bt + tT sr st a, by omega, s3, s4, w3, w4⟩ (fun k k1 k2 k3 k4 => q_move_ne k1 k3) (fun j hj => by rw [q_move_k (zk rfl) (zk rfl)]) (fun k k1 k2 k3 => q_mv_ne k1 k3) (fun j j1 j2 => q_mv_o (fun q => absurd q.1.symm nv2) (by omega))
    · rw [q_move_ne (z7_ne (by decide)) (z7_ne (by omega))]; exact z5
    · rw [q_move_ne (z7_ne (by decide)) (z7_ne (by omega))]; exact z6
    · rw [q_mv_k (zk rfl) (zk rfl)]; exact z7
    · rw [q_mv_k (zk rfl) (zk rfl)]; exact z8
    · rw [q_move_k (zk rfl) (zk rfl)]; exact z9
    · rw [q_mv_k (zk rfl) (zk rfl)]; exact z10
theorem t_hd100 {a k : Nat} (ha : a ≤ 6000) (hk : k ≤ 100) : nI a * nI k / 100 = nI (a * k / 100) ∧ a * k / 100 ≤ a := by
  have h1 : a * k ≤ a * 100 := Nat.mul_le_mul_left a hk
  generalize hx : a * k = X at h1 ⊢
  refine ⟨?_, by omega⟩
  rw [pk_mul, hx]
  exact pk_div (d := 100) (by omega) (by decide) (by decide)
theorem t_hd2 {a X : Nat} (ha : a ≤ 6000) (hX : X ≤ 90) : q_tinOfHead (nI a) (nI X) = nI (a * (100 - X / 3) / 100) ∧ q_rockOfHead (nI a) (nI X) = nI (a * ((100 - X) / 4) / 100) := by
  have e1 : (100 : Int32) - nI X / 3 = nI (100 - X / 3) := by
    rw [show nI X / 3 = nI (X / 3) from pk_div (d := 3) (by omega) (by decide) (by decide)]
    exact pk_sub (a := 100) (by omega)
  have e2 : ((100 : Int32) - nI X) / 4 = nI ((100 - X) / 4) := by
    rw [show (100 : Int32) - nI X = nI (100 - X) from pk_sub (a := 100) (by omega)]
    exact pk_div (d := 4) (by omega) (by decide) (by decide)
  unfold q_tinOfHead q_rockOfHead
  rw [e1, e2]
  exact ⟨(t_hd100 ha (by omega)).1, (t_hd100 ha (by omega)).1⟩
section TE
variable {m M : ZM} {b : Nat} {x lr lt : Int32}
theorem wE_5 : q8_washE m b x lr lt M (12, 0, 0) 5 = M (12, 0, 0) 5 + (lt - lt / 2) := by
  unfold q8_washE
  rw [zs_k (zk rfl), zs_k (zk rfl), zs_k (zk rfl), zs_k (zk rfl), zs_ej (by decide), zs_eq rfl]
theorem wE_4 : q8_washE m b x lr lt M (12, 0, 0) 4 = M (12, 0, 0) 4 + (lr - lr / 2) := by
  unfold q8_washE
  rw [zs_k (zk rfl), zs_k (zk rfl), zs_k (zk rfl), zs_k (zk rfl), zs_eq rfl, zs_ej (by decide)]
theorem wE_j {j : Nat} (h : j ≠ 4) (h5 : j ≠ 5) : q8_washE m b x lr lt M (12, 0, 0) j = M (12, 0, 0) j := by
  unfold q8_washE
  rw [zs_k (zk rfl), zs_k (zk rfl), zs_k (zk rfl), zs_k (zk rfl), zs_ej h, zs_ej h5]
theorem wE_600 : q8_washE m b x lr lt M (2, 60, 2) 0 = M (2, 60, 2) 0 + q8_headRock m b x := by
  unfold q8_washE
  rw [zs_ne (z2_ne (by decide)), zs_ne (z2_ne (by decide)), zs_ej (by decide), zs_eq rfl, zs_k (zk rfl), zs_k (zk rfl)]
theorem wE_601 : q8_washE m b x lr lt M (2, 60, 2) 1 = M (2, 60, 2) 1 + q8_headTin m b x := by
  unfold q8_washE
  rw [zs_ne (z2_ne (by decide)), zs_ne (z2_ne (by decide)), zs_eq rfl, zs_ej (by decide), zs_k (zk rfl), zs_k (zk rfl)]
theorem wE_210 : q8_washE m b x lr lt M (2, 21 + 20 * 0, 6) (2 * b) = 0 := by
  unfold q8_washE
  rw [zs_ej (by omega), zs_eq rfl]
theorem wE_211 : q8_washE m b x lr lt M (2, 21 + 20 * 0, 6) (2 * b + 1) = 0 := by
  unfold q8_washE
  rw [zs_eq rfl]
theorem wE_21 {j : Nat} (h : j ≠ 2 * b) (h2 : j ≠ 2 * b + 1) : q8_washE m b x lr lt M (2, 21 + 20 * 0, 6) j = M (2, 21 + 20 * 0, 6) j := by
  unfold q8_washE
  rw [zs_ej h2, zs_ej h, zs_ne (z2_ne (by decide)), zs_ne (z2_ne (by decide)), zs_k (zk rfl), zs_k (zk rfl)]
theorem wE_k {k : ZN} (h1 : k ≠ (2, 60, 2)) (h2 : k ≠ (12, 0, 0)) (h3 : k ≠ (2, 21 + 20 * 0, 6)) : q8_washE m b x lr lt M k = M k := by
  unfold q8_washE
  rw [zs_ne h3, zs_ne h3, zs_ne h1, zs_ne h1, zs_ne h2, zs_ne h2]
end TE
set_option maxHeartbeats 4000000 in
theorem RQ_wash (R : RQ ma mb n bc sc bu hq f c) (hn : n < 512) {u X : Nat} (hu : u < 3) (hX : X ≤ 90) (hc : c < 30) :
    q_tinOfHead (ma (7, 0, 42 + u) 1) (nI X) = q8_headTin mb u (nI X) ∧ ∃ c', RQ (q_part ma 0 (42 + u) f c (nI X)) (q8_washM mb c u (nI X)) (n + 1) bc sc bu hq f c' := by
  obtain ⟨br, bt, u1, u2, u3, u4, u5⟩ := rq_bud R hu
  obtain ⟨sr, st, tr, tt, mt, z1, z2, z3, z4, z5, z6, z7, z8, z9, z10, z11⟩ := R.2.2.2.2.2.1
  obtain ⟨hT, eT⟩ : ∃ y, y = bt * (100 - X / 3) / 100 := ⟨_, rfl⟩
  obtain ⟨hR, eR⟩ : ∃ y, y = br * ((100 - X) / 4) / 100 := ⟨_, rfl⟩
  have t1 : q_tinOfHead (nI bt) (nI X) = nI hT := by rw [eT]; exact (t_hd2 (by omega) hX).1
  have t2 : q_rockOfHead (nI br) (nI X) = nI hR := by rw [eR]; exact (t_hd2 (by omega) hX).2
  have l1 : hT ≤ bt := by rw [eT]; exact (t_hd100 (by omega) (by omega)).2
  have l2 : hR ≤ br := by rw [eR]; exact (t_hd100 (by omega) (by omega)).2
  have t3 : q8_headTin mb u (nI X) = nI hT := by
    show q_tinOfHead (mb (2, 21 + 20 * 0, 6) (2 * u + 1)) (nI X) = _
    rw [u5, t1]
  have t4 : q8_headRock mb u (nI X) = nI hR := by
    show q_rockOfHead (mb (2, 21 + 20 * 0, 6) (2 * u)) (nI X) = _
    rw [u4, t2]
  obtain ⟨lR, elR⟩ : ∃ y, y = br - hR := ⟨_, rfl⟩
  obtain ⟨lT, elT⟩ : ∃ y, y = bt - hT := ⟨_, rfl⟩
  have d1 : nI br - nI hR = nI lR := by rw [elR]; exact pk_sub l2
  have d2 : nI bt - nI hT = nI lT := by rw [elT]; exact pk_sub l1
  have v1 : nI lR / 2 = nI (lR / 2) := pk_div (d := 2) (by omega) (by decide) (by decide)
  have v2 : nI lT / 2 = nI (lT / 2) := pk_div (d := 2) (by omega) (by decide) (by decide)
  have g1 : nI lR - nI (lR / 2) = nI (lR - lR / 2) := pk_sub (by omega)
  have g2 : nI lT - nI (lT / 2) = nI (lT - lT / 2) := pk_sub (by omega)
  refine ⟨by rw [u3, t1, t3], ?_⟩
  have k71 : ∀ o, ((7, 0, o) : ZN) ≠ (1, 0, 0) := fun o e => by injection e with e1; exact absurd e1 (by decide)
  have k12 : ∀ a b : Nat, ((12, 0, 0) : ZN) ≠ (2, a, b) := fun a b e => by injection e with e1; exact absurd e1 (by decide)
  by_cases hz : lR / 2 + lT / 2 = 0
  · refine ⟨c, ?_⟩
    have q1 : (ma (7, 0, 42 + u) 0 - q_rockOfHead (ma (7, 0, 42 + u) 0) (nI X)) / 2 + (ma (7, 0, 42 + u) 1 - q_tinOfHead (ma (7, 0, 42 + u) 1) (nI X)) / 2 ≤ 0 := by
      rw [u2, u3, t1, t2, d1, d2, v1, v2, nI_add, hz]; decide
    have q2 : (mb (2, 21 + 20 * 0, 6) (2 * u + 1) - q8_headTin mb u (nI X)) / 2 + (mb (2, 21 + 20 * 0, 6) (2 * u) - q8_headRock mb u (nI X)) / 2 ≤ 0 := by
      rw [u4, u5, t3, t4, d1, d2, v1, v2, nI_add, Nat.add_comm, hz]; decide
    rw [← q_part_a q1, q8_wash_a q2, u2, u3, t1, t2, d1, d2, v1, v2, g1, g2, u4, u5, t3, t4, d1, d2]
    refine RQ_ZU R hu ⟨sr + hR, st + hT, tr + (lR - lR / 2), tt + (lT - lT / 2), mt, ?_, ?_, ?_, ?_, ?_, ?_, ?_, ?_, ?_, ?_, by omega⟩ ⟨0, 0, by decide, q_become_0.trans nI_0.symm, q_become_1.trans nI_0.symm, wE_210.trans nI_0.symm, wE_211.trans nI_0.symm⟩ (fun k k1 k2 k3 k4 => ?_) (fun j hj => ?_) (fun k k1 k2 k3 => wE_k k1 k2 k3) (fun j j1 j2 => wE_21 j1 j2)
    · rw [q_become_ne (z7_ne (by omega)), q_put_ne (z7_ne (by decide)), q_put_0, z1, nI_add]
    · rw [q_become_ne (z7_ne (by omega)), q_put_ne (z7_ne (by decide)), q_put_1, z2, nI_add]
    · rw [wE_600, z3, t4, nI_add]
    · rw [wE_601, z4, t3, nI_add]
    · rw [q_become_ne (z7_ne (by omega)), q_put_0, q_put_ne (z7_ne (by decide)), z5, nI_add]
    · rw [q_become_ne (z7_ne (by omega)), q_put_1, q_put_ne (z7_ne (by decide)), z6, nI_add]
    · rw [wE_4, z7, v1, g1, nI_add]
    · rw [wE_5, z8, v2, g2, nI_add]
    · rw [q_become_k (zk rfl), q_put_k (zk rfl), q_put_k (zk rfl)]; exact z9
    · rw [wE_j (by decide) (by decide)]; exact z10
    · rw [q_become_ne k3, q_put_ne k2, q_put_ne k1]
    · rw [q_become_k (zk rfl), q_put_k (zk rfl), q_put_k (zk rfl)]
  · refine ⟨c + 1, ?_⟩
    have q1 : ¬ (ma (7, 0, 42 + u) 0 - q_rockOfHead (ma (7, 0, 42 + u) 0) (nI X)) / 2 + (ma (7, 0, 42 + u) 1 - q_tinOfHead (ma (7, 0, 42 + u) 1) (nI X)) / 2 ≤ 0 := by
      rw [u2, u3, t1, t2, d1, d2, v1, v2, nI_add]
      exact nI_nle (by omega) (by omega)
    have q2 : ¬ (mb (2, 21 + 20 * 0, 6) (2 * u + 1) - q8_headTin mb u (nI X)) / 2 + (mb (2, 21 + 20 * 0, 6) (2 * u) - q8_headRock mb u (nI X)) / 2 ≤ 0 := by
      rw [u4, u5, t3, t4, d1, d2, v1, v2, nI_add]
      exact nI_nle (by omega) (by omega)
    have R2 := RQ_bring R hc (r := lR / 2) (t := lT / 2) (h := 1) (by omega) (by omega) (by decide) (by decide) rfl rfl
    have hj : (f + c) % 30 < 30 := Nat.mod_lt _ (by decide)
    rw [← q_part_b q1, q8_wash_b q2, u2, u3, t1, t2, d1, d2, v1, v2, g1, g2, u4, u5, t3, t4, d1, d2, v1, v2]
    refine RQ_ZU R2 hu ⟨sr + hR, st + hT, tr + (lR - lR / 2), tt + (lT - lT / 2), mt, ?_, ?_, ?_, ?_, ?_, ?_, ?_, ?_, ?_, ?_, by omega⟩ ⟨0, 0, by decide, q_become_0.trans nI_0.symm, q_become_1.trans nI_0.symm, wE_210.trans nI_0.symm, wE_211.trans nI_0.symm⟩ (fun k k1 k2 k3 k4 => ?_) (fun j hj => ?_) (fun k k1 k2 k3 => wE_k k1 k2 k3) (fun j j1 j2 => wE_21 j1 j2)
    · rw [q_become_ne (z7_ne (by omega)), q_put_ne (z7_ne (by decide)), q_addLot_7 (by omega), q_put_0, z1, nI_add]
    · rw [q_become_ne (z7_ne (by omega)), q_put_ne (z7_ne (by decide)), q_addLot_7 (by omega), q_put_1, z2, nI_add]
    · rw [wE_600, t4]
      unfold q_addLot7
      rw [zs_k (zk rfl), zs_ne (z2_ne (by decide)), zs_ne (z2_ne (by decide)), zs_ne (z2_ne (by decide)), z3, nI_add]
    · rw [wE_601, t3]
      unfold q_addLot7
      rw [zs_k (zk rfl), zs_ne (z2_ne (by decide)), zs_ne (z2_ne (by decide)), zs_ne (z2_ne (by decide)), z4, nI_add]
    · rw [q_become_ne (z7_ne (by omega)), q_put_0, q_addLot_7 (by omega), q_put_ne (z7_ne (by decide)), z5, nI_add]
    · rw [q_become_ne (z7_ne (by omega)), q_put_1, q_addLot_7 (by omega), q_put_ne (z7_ne (by decide)), z6, nI_add]
    · rw [wE_4, v1, g1]
      unfold q_addLot7
      rw [zs_k (zk rfl), zs_k (zk rfl), zs_k (zk rfl), zs_k (zk rfl), z7, nI_add]
    · rw [wE_5, v2, g2]
      unfold q_addLot7
      rw [zs_k (zk rfl), zs_k (zk rfl), zs_k (zk rfl), zs_k (zk rfl), z8, nI_add]
    · rw [q_become_k (zk rfl), q_put_k (zk rfl)]
      unfold q_addLot
      rw [zs_k (zk rfl), zs_k (zk rfl), q_become_k (zk rfl), q_put_k (zk rfl)]; exact z9
    · rw [wE_j (by decide) (by decide)]
      unfold q_addLot7
      rw [zs_k (zk rfl), zs_k (zk rfl), zs_k (zk rfl), zs_k (zk rfl)]; exact z10
    · rw [q_become_ne k3, q_put_ne k2]
      exact q_addLot_c (q_put_ne k1) (q_put_k (zk rfl))
    · rw [q_become_k (zk rfl), q_put_k (zk rfl)]
      exact congrFun (q_addLot_c (q_put_k (zk rfl)) (q_put_k (zk rfl))) j
def q8_sm (m : ZM) (x : Int32) : Int32 × ZM :=
  if q8_grade (0 + (x - q8_smT m x)).toInt64 (0 + q8_smT m x).toInt64 < 400 then (0, zs (q8_take m x) (12, 0, 0) 6 (m (12, 0, 0) 6 + 0))
  else ((0 + q8_smT m x) * 9 / 10, zs (q8_take m x) (12, 0, 0) 6 (m (12, 0, 0) 6 + (0 + q8_smT m x) * 9 / 10))
set_option maxHeartbeats 4000000 in
theorem RQ_smelt (R : RQ ma mb n bc sc bu hq f c) (hn : n < 512) {X : Nat} (h1 : 1 ≤ X) (hX : X < 2 ^ 31) (hx : nI X ≤ q_whole ma (7, 0, 45)) : (q8_sm mb (nI X)).1 = q_smeltR ma 0 (nI X) ∧ RQ (q_smeltM ma 0 (nI X)) (q8_sm mb (nI X)).2 n bc sc bu hq f c := by
  obtain ⟨sr, st, tr, tt, mt, z1, z2, z3, z4, z5, z6, z7, z8, z9, z10, z11⟩ := R.2.2.2.2.2.1
  have ew : q_whole ma (7, 0, 45) = nI (sr + st) := by unfold q_whole; rw [z1, z2, nI_add]
  have lx : X ≤ sr + st := by rw [ew] at hx; exact (nI_leI hX (by omega)).mp hx
  obtain ⟨T, eT⟩ : ∃ T, T = tT sr st X := ⟨_, rfl⟩
  have lT : T ≤ st := by rw [eT]; exact tT_t lx
  have lA : T ≤ X := by rw [eT]; exact tT_a
  have lR : X - T ≤ sr := by rw [eT]; exact tT_r lx
  have t1 : q_smeltT ma 0 (nI X) = nI T := by
    unfold q_smeltT
    rw [ew, z2, t_part (by omega) hX (by omega), eT]
    rfl
  have t2 : q8_smT mb (nI X) = nI T := by
    unfold q8_smT
    rw [z3, z4, t_tinOf (by omega) (by omega) hX, eT]
  have d1 : nI X - nI T = nI (X - T) := pk_sub lA
  obtain ⟨G, eG⟩ : ∃ G, G = T * 1000 / (X - T + T) := ⟨_, rfl⟩
  have g1 : q_gradeOf (nI (X - T)) (nI T) = nI G := by rw [eG]; exact (t_grade (by omega)).1
  have g2 : q8_grade (nI (X - T)).toInt64 (nI T).toInt64 = nI G := by rw [eG]; exact (t_grade (by omega)).2
  have s0 : ∀ y, (0 : Int32) + nI y = nI y := fun y => (nI_add 0 y).trans (by rw [Nat.zero_add])
  have g9 : nI T * 9 / 10 = nI (T * 9 / 10) := by
    rw [show nI T * 9 = nI (T * 9) from pk_mul T 9]
    exact pk_div (d := 10) (by omega) (by decide) (by decide)
  have p1 : q_smeltP ma 0 (nI X) (7, 0, 45) 0 = nI (sr - (X - T)) := by
    unfold q_smeltP
    rw [q_put_0, t1, d1, z1, t_an, pk_sub lR]
  have p2 : q_smeltP ma 0 (nI X) (7, 0, 45) 1 = nI (st - T) := by
    unfold q_smeltP
    rw [q_put_1, t1, z2, t_an, pk_sub lT]
  have pk : ∀ k : ZN, k ≠ (7, 0, 45) → q_smeltP ma 0 (nI X) k = ma k := fun k hk => by
    unfold q_smeltP
    rw [q_put_ne hk]
  have b1 : q8_take mb (nI X) (2, 60, 2) 0 = nI (sr - (X - T)) := by
    unfold q8_take
    rw [zs_ej (by decide), zs_eq rfl, t2, d1, z3, pk_sub lR]
  have b2 : q8_take mb (nI X) (2, 60, 2) 1 = nI (st - T) := by
    unfold q8_take
    rw [zs_eq rfl, zs_ej (by decide), t2, z4, pk_sub lT]
  have bk : ∀ k : ZN, k ≠ (2, 60, 2) → q8_take mb (nI X) k = mb k := fun k hk => by
    unfold q8_take
    rw [zs_ne hk, zs_ne hk]
  have k71 : ∀ o, ((7, 0, o) : ZN) ≠ (1, 0, 0) := fun o e => by injection e with e1; exact absurd e1 (by decide)
  have k17 : ((1, 0, 0) : ZN) ≠ (7, 0, 45) := fun e => by injection e with e1; exact absurd e1 (by decide)
  have k12 : ∀ a b : Nat, ((12, 0, 0) : ZN) ≠ (2, a, b) := fun a b e => by injection e with e1; exact absurd e1 (by decide)
  have k21 : ∀ a b : Nat, ((2, a, b) : ZN) ≠ (12, 0, 0) := fun a b e => by injection e with e1; exact absurd e1 (by decide)
  have key : ∀ (A B : ZM) (y : Nat), y ≤ T → (∀ k : ZN, k ≠ (1, 0, 0) → A k = q_smeltP ma 0 (nI X) k) → (∀ j, j ≠ 11 → A (1, 0, 0) j = ma (1, 0, 0) j) → A (1, 0, 0) 11 = nI (mt + y) → B = zs (q8_take mb (nI X)) (12, 0, 0) 6 (nI (mt + y)) → RQ A B n bc sc bu hq f c := by
    intro A B y hy a1 a2 a3 eB
    have hB : ∀ k : ZN, k ≠ (2, 60, 2) → k ≠ (12, 0, 0) → B k = mb k := fun k q1 q2 => by rw [eB, zs_ne q2, bk k q1]
    refine RQ_ZU R (u := 0) (by decide) ⟨sr - (X - T), st - T, tr, tt, mt + y, by rw [a1 _ (k71 _)]; exact p1, by rw [a1 _ (k71 _)]; exact p2, by rw [eB, zs_ne (k21 _ _)]; exact b1, by rw [eB, zs_ne (k21 _ _)]; exact b2, ?_, ?_, ?_, ?_, a3, by rw [eB, zs_eq rfl], by omega⟩ (tU_same (rq_bud R (u := 0) (by decide)) ?_ ?_ ?_) (fun k q1 q2 q3 q4 => by rw [a1 _ q4, pk _ q1]) a2 (fun k q1 q2 q3 => hB k q1 q2) (fun j _ _ => by rw [hB _ (z2_ne (by decide)) (k21 _ _)])
    · rw [a1 _ (k71 _), pk _ (z7_ne (by decide))]; exact z5
    · rw [a1 _ (k71 _), pk _ (z7_ne (by decide))]; exact z6
    · rw [eB, zs_ej (by decide), bk _ (k12 _ _)]; exact z7
    · rw [eB, zs_ej (by decide), bk _ (k12 _ _)]; exact z8
    · rw [a1 _ (k71 _), pk _ (z7_ne (by decide))]
    · rw [hB _ (z2_ne (by decide)) (k21 _ _)]
    · rw [hB _ (z2_ne (by decide)) (k21 _ _)]
  unfold q8_sm q_smeltR q_smeltM
  rw [t2, t1, d1, s0, s0, g1, g2, g9]
  by_cases cc : nI G < 400
  · have c2 : ¬ 400 ≤ nI G := by rw [Int32.not_le]; exact cc
    rw [if_pos cc, if_neg c2, if_neg c2]
    refine ⟨rfl, key _ _ 0 (by omega) (fun k _ => rfl) (fun j _ => by rw [pk _ k17]) (by rw [pk _ k17]; exact z9) ?_⟩
    show zs _ _ _ _ = _
    rw [z10]
    exact congrArg (fun q => zs (q8_take mb (nI X)) (12, 0, 0) 6 q) (nI_add mt 0)
  · have c2 : 400 ≤ nI G := by rw [← Int32.not_lt]; exact cc
    rw [if_neg cc, if_pos c2, if_pos c2]
    refine ⟨rfl, key _ _ (T * 9 / 10) (by omega) (fun k hk => zs_ne hk) (fun j hj => by rw [zs_ej hj, pk _ k17]) (by rw [zs_eq rfl, pk _ k17, z9, nI_add]) ?_⟩
    show zs _ _ _ _ = _
    rw [z10, nI_add]
end TW
