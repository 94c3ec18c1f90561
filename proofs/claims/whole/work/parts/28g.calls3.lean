/-! more calls, side by side (by program: wip/whole/sp19.py) -/
section TC2
variable {m : ZM} {n bc hq f c : Nat} {sc bu : Nat → Nat}
theorem tc_run (R : RQ m m n bc sc bu hq f c) (hn : n < 512) (h : Int32) : tDone n bc sc bu hq c (zlr 2 3 9 (q6_run m bc sc bu hq h)) (fun m1 => q8_run m1 bc sc bu hq h) := by
  by_cases c1 : h < 1
  · skip
    have z1 : q6_rh h 100 = 2 := if_pos c1
    exact tx_fail R (k := 2) (by decide) (show q6_run m bc sc bu hq h = _ by unfold q6_run; rw [if_neg (by rw [z1]; decide), z1]) (j := 1) (show q8_run m bc sc bu hq h = _ by unfold q8_run; rw [if_pos (t_isIn_lo c1)]) (by decide) (by decide)
  by_cases c2 : h ≤ 100
  rotate_left
  · skip
    have z1 : q6_rh h 100 = 2 := (if_neg c1).trans (if_neg c2)
    exact tx_fail R (k := 2) (by decide) (show q6_run m bc sc bu hq h = _ by unfold q6_run; rw [if_neg (by rw [z1]; decide), z1]) (j := 1) (show q8_run m bc sc bu hq h = _ by unfold q8_run; rw [if_pos (t_isIn_hi (t_nle c2))]) (by decide) (by decide)
  have z1 : q6_rh h 100 = 0 := (if_neg c1).trans (if_pos c2)
  have z2 : ¬ q_isIn h 1 100 = 0 := t_isIn c1 (t_len c2)
  obtain ⟨eh, lh0, lh⟩ := zx_natl (a := 1) (n := 100) (by decide) (by decide) c1 c2
  have lq : hq ≤ 5000 := R.1
  have e16 : m (1, 0, 0) 6 = nI hq := R.2.1.2.2.2.1
  have e5 : (5000 : Int32) - nI hq = nI (5000 - hq) := pk_sub (a := 5000) lq
  by_cases c3 : hq + h.toNatClampNeg ≤ 5000
  rotate_left
  · skip
    have z3 : q6_lh m h = 3 := by
      unfold q6_lh
      rw [e16, e5]
      exact if_neg (fun q => by rw [eh] at q; have := (nI_leI (by omega) (by omega)).mp q; omega)
    have z4 : ¬ nI hq + h ≤ 5000 := fun q => by
      rw [eh, nI_add] at q
      have := (nI_leI (b := 5000) (by omega) (by decide)).mp q
      omega
    exact tx_fail R (k := 3) (by decide) (show q6_run m bc sc bu hq h = _ by unfold q6_run; rw [if_pos z1, if_neg (by rw [z3]; decide), z3]) (j := 2) (show q8_run m bc sc bu hq h = _ by unfold q8_run; rw [if_neg z2, if_neg z4]) (by decide) (by decide)
  have z3 : q6_lh m h = 0 := by
    unfold q6_lh
    rw [e16, e5]
    exact if_pos (by rw [eh]; exact (nI_leI (by omega) (by omega)).mpr (by omega))
  have z4 : nI hq + h ≤ 5000 := by
    rw [eh, nI_add]
    exact (nI_leI (b := 5000) (by omega) (by decide)).mpr (by omega)
  refine tx_w R (by decide) (r := q_passT m 0 bc sc bu hq h.toNatClampNeg) (mc := q_passM m 0 bc sc bu hq h.toNatClampNeg) (mo := fun m1 => q_runM7 (q8_z m1) 0 bc sc bu hq h.toNatClampNeg) (by unfold q6_run; rw [if_pos z1, if_pos z3]) (fun k hk => zf_pass zf_rf _ (tmk_zt (by decide) hk)) (fun m1 R1 => ?_) (fun m1 => ?_) (fun m1 => fm_run fm_z) (fun m1 R1 => ?_)
  · show q8_run m1 bc sc bu hq h = _
    unfold q8_run
    rw [if_neg z2, if_pos z4, (RQ_run R1 c3).1]
  · rw [q_run7_ne (zk rfl) (Or.inl (zk rfl))]
    exact q8_z12
  · obtain ⟨f2, c2, h9⟩ := (RQ_run R1 c3).2
    exact ⟨_, _, _, _, _, _, RQ_up h9 (Nat.le_succ n)⟩

theorem zf_part {m m1 : ZM} {o f c : Nat} {x : Int32} (h : zfr 0 m m1) : zfr 0 m (q_part m1 0 o f c x) := by
  unfold q_part
  dsimp only
  refine zf_become (zf_put ?_ zt_7) zt_7
  split
  · exact zf_put h zt_7
  · exact zf_addLot (zf_put h zt_7)

theorem tc_wash (R : RQ m m n bc sc bu hq f c) (hn : n < 512) (b x : Int32) : tDone n bc sc bu hq c (zlr 1 2 3 (q6_wash m f c b x)) (fun m1 => q8_wash m1 c b x) := by
  by_cases cb : q6_ud b = 0
  rotate_left
  · skip
    exact tx_fail R (k := 1) (by decide) (show q6_wash m f c b x = _ by unfold q6_wash; rw [if_neg cb, (t_nud cb).2]) (j := 1) (show q8_wash m c b x = _ by unfold q8_wash; rw [if_pos (t_nud cb).1]) (by decide) (by decide)
  obtain ⟨eb, lb⟩ := q6_ud_ok cb
  have ib := t_ud cb
  by_cases c1 : x < 10
  · skip
    exact tx_fail R (k := 2) (by decide) (show q6_wash m f c b x = _ by unfold q6_wash; rw [if_pos cb, if_pos c1]) (j := 2) (show q8_wash m c b x = _ by unfold q8_wash; rw [if_neg ib, if_pos (t_isIn_lo c1)]) (by decide) (by decide)
  by_cases c2 : x ≤ 90
  rotate_left
  · skip
    exact tx_fail R (k := 2) (by decide) (show q6_wash m f c b x = _ by unfold q6_wash; rw [if_pos cb, if_neg c1, if_neg c2]) (j := 2) (show q8_wash m c b x = _ by unfold q8_wash; rw [if_neg ib, if_pos (t_isIn_hi (t_nle c2))]) (by decide) (by decide)
  obtain ⟨br, bt, u1, u2, u3, u4, u5⟩ := rq_bud (RQ_z R) lb
  have ew : q_whole m (7, 0, 42 + b.toNatClampNeg) = nI (br + bt) := by unfold q_whole; rw [u2, u3, nI_add]
  have ew2 : q_pair (q8_z m) (2, 21 + 20 * 0, 6) (2 * b.toNatClampNeg) = nI (br + bt) := by unfold q_pair; rw [u4, u5, nI_add]
  by_cases c3 : br + bt = 0
  · skip
    have z0 : nI (br + bt) = 0 := by rw [c3]; rfl
    exact tx_fail R (k := 3) (by decide) (show q6_wash m f c b x = _ by unfold q6_wash; rw [if_pos cb, if_neg c1, if_pos c2, ew, if_pos z0]) (j := 3) (show q8_wash m c b x = _ by unfold q8_wash; rw [if_neg ib, if_neg (t_isIn c1 (t_len c2)), ew2, if_pos z0]) (by decide) (by decide)
  have z0 : ¬ nI (br + bt) = 0 := nI_ne0 (by omega) (by omega)
  have hc := rq_c R
  by_cases c7 : c = 30
  · skip
    have z1 : q6_fh c = 3 := by unfold q6_fh; rw [if_neg (by rw [c7]; decide)]
    have z2 : nI c = 30 := by rw [c7]; rfl
    exact tx_fail R (k := 3) (by decide) (show q6_wash m f c b x = _ by unfold q6_wash; rw [if_pos cb, if_neg c1, if_pos c2, ew, if_neg z0, if_neg (by rw [z1]; decide), z1]) (j := 3) (show q8_wash m c b x = _ by unfold q8_wash; rw [if_neg ib, if_neg (t_isIn c1 (t_len c2)), ew2, if_neg z0, if_pos z2]) (by decide) (by decide)
  have z1 : q6_fh c = 0 := if_pos ((nI_ltI (a := c) (b := 30) (by omega) (by decide)).mpr (by omega))
  have z2 : ¬ nI c = 30 := fun q => c7 ((nI_eq (a := c) (b := 30) (by omega) (by decide)).mp q)
  obtain ⟨ex, lx0, lx⟩ := zx_natl (a := 10) (n := 90) (by decide) (by decide) c1 c2
  have hk : ∀ m1, RQ m (q8_z m1) n bc sc bu hq f c → q_tinOfHead (m (7, 0, 42 + b.toNatClampNeg) 1) x = q8_headTin (q8_z m1) b.toNatClampNeg x ∧ ∃ c2, RQ (q_part m 0 (42 + b.toNatClampNeg) f c x) (q8_washM (q8_z m1) c b.toNatClampNeg x) (n + 1) bc sc bu hq f c2 := fun m1 R1 => by
    have h9 := RQ_wash R1 hn lb lx (by omega)
    rw [← ex] at h9
    exact h9
  refine tx_w R (by decide) (r := q_tinOfHead (m (7, 0, 42 + b.toNatClampNeg) 1) x) (mc := q_part m 0 (42 + b.toNatClampNeg) f c x) (mo := fun m1 => q8_washM (q8_z m1) c b.toNatClampNeg x) (by unfold q6_wash; rw [if_pos cb, if_neg c1, if_pos c2, ew, if_neg z0, if_pos z1]) (fun k hk => ?_) (fun m1 R1 => ?_) (fun m1 => ?_) (fun m1 => ?_) (fun m1 R1 => ?_)
  · exact zf_part zf_rf _ (tmk_zt (by decide) hk)
  · show q8_wash m1 c b x = _
    obtain ⟨br1, bt1, v1, v2, v3, v4, v5⟩ := rq_bud R1 lb
    have ew3 : q_pair (q8_z m1) (2, 21 + 20 * 0, 6) (2 * b.toNatClampNeg) = nI (br + bt) := by unfold q_pair; rw [v4, v5, ← v2, ← v3, u2, u3, nI_add]
    unfold q8_wash
    rw [if_neg ib, if_neg (t_isIn c1 (t_len c2)), ew3, if_neg z0, if_neg z2, (hk m1 R1).1]
  · unfold q8_washM
    split
    · rw [wE_j (by decide) (by decide)]; exact q8_z12
    · rw [wE_j (by decide) (by decide)]
      unfold q_addLot7
      rw [zs_k (zk rfl), zs_k (zk rfl), zs_k (zk rfl), zs_k (zk rfl)]; exact q8_z12
  · unfold q8_washM q8_washE
    split
    · exact fm_s (fm_s (fm_s (fm_s (fm_s (fm_s fm_z nc12) nc12) (nc2 (by decide))) (nc2 (by decide))) (nc2 (by decide))) (nc2 (by decide))
    · exact fm_s (fm_s (fm_s (fm_s (fm_s (fm_s (fm_addLot fm_z) nc12) nc12) (nc2 (by decide))) (nc2 (by decide))) (nc2 (by decide))) (nc2 (by decide))
  · obtain ⟨c2, h9⟩ := (hk m1 R1).2
    exact ⟨_, _, _, _, _, _, h9⟩

theorem tc_again (R : RQ m m n bc sc bu hq f c) (hn : n < 512) (b : Int32) : tDone n bc sc bu hq c (zlr 1 9 9 (q6_again m b)) (fun m1 => q8_again m1 b) := by
  by_cases cb : q6_ud b = 0
  rotate_left
  · skip
    exact tx_fail R (k := 1) (by decide) (show q6_again m b = _ by unfold q6_again; rw [if_neg cb, (t_nud cb).2]) (j := 1) (show q8_again m b = _ by unfold q8_again; rw [if_pos (t_nud cb).1]) (by decide) (by decide)
  obtain ⟨eb, lb⟩ := q6_ud_ok cb
  have ib := t_ud cb
  obtain ⟨X, a, x1, x2, -, -⟩ := RQ_again R hn lb
  have hk : ∀ m1, RQ m (q8_z m1) n bc sc bu hq f c → q8_againP (q8_z m1) b.toNatClampNeg = nI a ∧ RQ (q_move m (7, 0, 45) (7, 0, 42 + b.toNatClampNeg) (nI X)) (q_mv (q8_z m1) (2, 60, 2) 0 (2, 21 + 20 * 0, 6) (2 * b.toNatClampNeg) (nI a)) n bc sc bu hq f c := fun m1 R1 => by
    obtain ⟨X1, a1, y1, y2, y3, y4⟩ := RQ_again R1 hn lb
    rw [← y1, x1] at y2 y4
    rw [← y2, x2] at y3 y4
    exact ⟨y3, y4⟩
  refine tx_w R (by decide) (r := nI a) (mc := q_move m (7, 0, 45) (7, 0, 42 + b.toNatClampNeg) (nI X)) (mo := fun m1 => q_mv (q8_z m1) (2, 60, 2) 0 (2, 21 + 20 * 0, 6) (2 * b.toNatClampNeg) (nI a)) (by unfold q6_again; rw [if_pos cb, x1, x2]) (fun k hk => ?_) (fun m1 R1 => ?_) (fun m1 => ?_) (fun m1 => fm_mv fm_z (nc2 (by decide)) (nc2 (by decide))) (fun m1 R1 => ⟨_, _, _, _, _, _, RQ_up (hk m1 R1).2 (Nat.le_succ n)⟩)
  · exact zf_move zf_rf zt_7 zt_7 _ (tmk_zt (by decide) hk)
  · show q8_again m1 b = _
    unfold q8_again
    rw [if_neg ib, (hk m1 R1).1]
  · rw [q_mv_k (zk rfl) (zk rfl)]
    exact q8_z12

theorem q8_smelt_sm {m : ZM} {x : Int32} (c1 : 1 ≤ x) (c2 : x ≤ q8_z m (2, 60, 2) 0 + q8_z m (2, 60, 2) 1) : q8_smelt m x = q8_sm (q8_z m) x := by
  unfold q8_smelt q8_sm
  rw [if_pos c1, if_pos c2]
theorem q8_sm_z {m : ZM} {x : Int32} : (q8_sm (q8_z m) x).2 (12, 0, 0) 0 = 0 := by
  unfold q8_sm q8_take
  split
  · dsimp only
    rw [zs_ej (by decide), zs_k (zk rfl), zs_k (zk rfl)]
    exact q8_z12
  · dsimp only
    rw [zs_ej (by decide), zs_k (zk rfl), zs_k (zk rfl)]
    exact q8_z12
theorem q8_sm_f {m : ZM} {x : Int32} : fm m (q8_sm (q8_z m) x).2 := by
  unfold q8_sm q8_take
  split
  · exact fm_s (fm_s (fm_s fm_z (nc2 (by decide))) (nc2 (by decide))) nc12
  · exact fm_s (fm_s (fm_s fm_z (nc2 (by decide))) (nc2 (by decide))) nc12

theorem tc_smelt (R : RQ m m n bc sc bu hq f c) (hn : n < 512) (x : Int32) : tDone n bc sc bu hq c (zlr 2 3 9 (q6_smelt m x)) (fun m1 => q8_smelt m1 x) := by
  obtain ⟨sr, st, tr, tt, mt, y1, y2, y3, y4, -, -, -, -, -, -, y11⟩ := (RQ_z R).2.2.2.2.2.1
  have ew : q_whole m (7, 0, 45) = nI (sr + st) := by unfold q_whole; rw [y1, y2, nI_add]
  have ew2 : q8_z m (2, 60, 2) 0 + q8_z m (2, 60, 2) 1 = nI (sr + st) := by rw [y3, y4, nI_add]
  by_cases c1 : 1 ≤ x
  rotate_left
  · skip
    exact tx_fail R (k := 2) (by decide) (show q6_smelt m x = _ by unfold q6_smelt; rw [if_neg c1]) (j := 1) (show q8_smelt m x = _ by unfold q8_smelt; rw [if_neg c1]) (by decide) (by decide)
  by_cases c2 : x ≤ q_whole m (7, 0, 45)
  rotate_left
  · skip
    have c3 : ¬ x ≤ q8_z m (2, 60, 2) 0 + q8_z m (2, 60, 2) 1 := by rw [ew2, ← ew]; exact c2
    exact tx_fail R (k := 3) (by decide) (show q6_smelt m x = _ by unfold q6_smelt; rw [if_pos c1, if_neg c2]) (j := 2) (show q8_smelt m x = _ by unfold q8_smelt; rw [if_pos c1, if_neg c3]) (by decide) (by decide)
  have c0 : ¬ x < 0 := fun q => by
    rw [Int32.lt_iff_toInt_lt] at q
    rw [Int32.le_iff_toInt_le] at c1
    have e0 : (0 : Int32).toInt = 0 := rfl
    have e1 : (1 : Int32).toInt = 1 := rfl
    omega
  obtain ⟨X, hX, ex⟩ := nI_of c0
  have l1 : 1 ≤ X := by rw [ex] at c1; exact (nI_leI (a := 1) (by decide) hX).mp c1
  have hk : ∀ m1, RQ m (q8_z m1) n bc sc bu hq f c → (q8_sm (q8_z m1) x).1 = q_smeltR m 0 x ∧ RQ (q_smeltM m 0 x) (q8_sm (q8_z m1) x).2 n bc sc bu hq f c := fun m1 R1 => by
    have h9 := RQ_smelt R1 hn l1 hX (by rw [← ex]; exact c2)
    rw [← ex] at h9
    exact h9
  refine tx_w R (by decide) (r := q_smeltR m 0 x) (mc := q_smeltM m 0 x) (mo := fun m1 => (q8_sm (q8_z m1) x).2) (by unfold q6_smelt; rw [if_pos c1, if_pos c2]) (fun k hk => ?_) (fun m1 R1 => ?_) (fun m1 => ?_) (fun m1 => ?_) (fun m1 R1 => ⟨_, _, _, _, _, _, RQ_up (hk m1 R1).2 (Nat.le_succ n)⟩)
  · unfold q_smeltM q_smeltP
    split
    · exact zf_s (zf_put zf_rf zt_7) zt_1 _ (tmk_zt (by decide) hk)
    · exact zf_put zf_rf zt_7 _ (tmk_zt (by decide) hk)
  · obtain ⟨sr1, st1, tr1, tt1, mt1, v1, v2, v3, v4, -⟩ := R1.2.2.2.2.2.1
    have c3 : x ≤ q8_z m1 (2, 60, 2) 0 + q8_z m1 (2, 60, 2) 1 := by rw [v3, v4, ← v1, ← v2]; exact c2
    show q8_smelt m1 x = (_, (q8_sm (q8_z m1) x).2)
    rw [← (hk m1 R1).1, q8_smelt_sm c1 c3]
  · exact q8_sm_z
  · exact q8_sm_f
end TC2
