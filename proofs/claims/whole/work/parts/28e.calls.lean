/-! each call, side by side (by program: wip/whole/sp18.py) -/
section TC
variable {m : ZM} {n bc hq f c : Nat} {sc bu : Nat → Nat}
theorem tx_r {g : ZM → Int32 × ZM} (R : RQ m m n bc sc bu hq f c) {q : Z3} {a b d : Nat} (hz : zcd a b d 0 = 0) {r : Int32} (hq0 : q = (0, r, m)) (hg : ∀ m1, RQ m (q8_z m1) n bc sc bu hq f c → g m1 = (r, q8_z m1)) : tDone n bc sc bu hq c (zlr a b d q) g :=
  tx_ok R hz hq0 (fun _ _ => rfl) (fun R1 => hg _ (RQ_z R1)) (by unfold q8_z; rw [zs_eq rfl]) (fm_s fm_rf nc12) (fun R1 => ⟨_, _, _, _, _, _, RQ_up (RQ_z R1) (Nat.le_succ n)⟩)
theorem tx_w {g : ZM → Int32 × ZM} (R : RQ m m n bc sc bu hq f c) {q : Z3} {a b d : Nat} (hz : zcd a b d 0 = 0) {r : Int32} {mc : ZM} {mo : ZM → ZM} (hq0 : q = (0, r, mc)) (hfr : ∀ k, tmk k → mc k = m k) (hg : ∀ m1, RQ m (q8_z m1) n bc sc bu hq f c → g m1 = (r, mo m1)) (h12 : ∀ m1, mo m1 (12, 0, 0) 0 = 0) (hfm : ∀ m1, fm m1 (mo m1))
    (hR : ∀ m1, RQ m (q8_z m1) n bc sc bu hq f c → ∃ bc' sc' bu' hq' f' c', RQ mc (mo m1) (n + 1) bc' sc' bu' hq' f' c') : tDone n bc sc bu hq c (zlr a b d q) g :=
  tx_ok R hz hq0 hfr (fun R1 => hg _ (RQ_z R1)) (h12 _) (hfm _) (fun R1 => hR _ (RQ_z R1))
theorem tk_ne {k n : ZN} (hk : tmk k) (hn : zt 0 n) : k ≠ n := fun e => tmk_zt (w := 0) (by decide) hk (by rw [e]; exact hn)
theorem rq_z4 {mb : ZM} (R : RQ m mb n bc sc bu hq f c) : q8_z mb (13, 0, 0) 4 = nI bc := (RQ_z R).2.1.2.1
theorem rq_bc (R : RQ m m n bc sc bu hq f c) : bc < 2 ^ 30 := by have := R.2.1.2.2.1; omega
theorem rq_c (R : RQ m m n bc sc bu hq f c) : c ≤ 30 := R.2.2.1.2.2.2.2.1
theorem rq_sc (R : RQ m m n bc sc bu hq f c) {b : Nat} (hb : b < bc) : sc b ≤ 4 := by
  obtain ⟨N, h⟩ := rq_box R hb
  exact h.2.2.1
theorem q8_z12 {m1 : ZM} : q8_z m1 (12, 0, 0) 0 = 0 := by unfold q8_z; rw [zs_eq rfl]
theorem fm_z {m1 : ZM} : fm m1 (q8_z m1) := fm_s fm_rf nc12
theorem tbn_pos {b : Int32} {n : Nat} (h0 : ¬ b < 0) (h1 : b < nI n) : q6_bn b n = 0 := by unfold q6_bn; rw [if_neg h0, if_pos h1]
theorem tc_setInflow (R : RQ m m n bc sc bu hq f c) (hn : n < 512) (h x : Int32) : tDone n bc sc bu hq c (zlr 1 2 9 (q6_setInflow m h x)) (fun m1 => q8_setInflow m1 h x) := by
  by_cases c1 : h < 0
  · skip
    exact tx_fail R (k := 1) (by decide) (show q6_setInflow m h x = _ by unfold q6_setInflow; rw [if_pos c1]) (j := 1) (show q8_setInflow m h x = _ by unfold q8_setInflow; rw [if_pos (t_isIn_lo c1)]) (by decide) (by decide)
  by_cases c2 : h < 24
  rotate_left
  · skip
    exact tx_fail R (k := 1) (by decide) (show q6_setInflow m h x = _ by unfold q6_setInflow; rw [if_neg c1, if_neg c2]) (j := 1) (show q8_setInflow m h x = _ by unfold q8_setInflow; rw [if_pos (t_isIn_hi (t_nlt rfl c2))]) (by decide) (by decide)
  by_cases c3 : x < 0
  · skip
    exact tx_fail R (k := 2) (by decide) (show q6_setInflow m h x = _ by unfold q6_setInflow; rw [if_neg c1, if_pos c2, if_pos c3]) (j := 2) (show q8_setInflow m h x = _ by unfold q8_setInflow; rw [if_neg (t_isIn c1 (t_ltn rfl c2)), if_pos (t_isIn_lo c3)]) (by decide) (by decide)
  by_cases c4 : x ≤ 900
  rotate_left
  · skip
    exact tx_fail R (k := 2) (by decide) (show q6_setInflow m h x = _ by unfold q6_setInflow; rw [if_neg c1, if_pos c2, if_neg c3, if_neg c4]) (j := 2) (show q8_setInflow m h x = _ by unfold q8_setInflow; rw [if_neg (t_isIn c1 (t_ltn rfl c2)), if_pos (t_isIn_hi (t_nle c4))]) (by decide) (by decide)
  obtain ⟨eh, lh⟩ := zx_nat (n := 24) (by decide) c1 c2
  obtain ⟨ex, -, lx⟩ := zx_natl (a := 0) (n := 900) (by decide) (by decide) c3 c4
  refine tx_w R (by decide) (r := m (2, 0, 24) h.toNatClampNeg) (mc := zs m (2, 0, 24) h.toNatClampNeg x) (mo := fun m1 => zs (q8_z m1) (2, 10 + 20 * 0, 24) h.toNatClampNeg x) (by unfold q6_setInflow; rw [if_neg c1, if_pos c2, if_neg c3, if_pos c4]) (fun k hk => zs_ne (tk_ne hk zt_2)) (fun m1 R1 => ?_) (fun m1 => (congrFun (zs_k (zk rfl)) 0).trans q8_z12) (fun m1 => fm_s fm_z (nc2 (by decide))) (fun m1 R1 => ?_)
  · show q8_setInflow m1 h x = _
    obtain ⟨a, -, e1, e2⟩ := rq_in R1 lh
    unfold q8_setInflow
    rw [if_neg (t_isIn c1 (t_ltn rfl c2)), if_neg (t_isIn c3 (t_len c4)), e1, e2]
  · have h9 := RQ_setInflow R1 (i := h.toNatClampNeg) lx rfl rfl
    rw [← ex] at h9
    exact ⟨_, _, _, _, _, _, RQ_up h9 (Nat.le_succ n)⟩

theorem tc_setSluice (R : RQ m m n bc sc bu hq f c) (hn : n < 512) (x : Int32) : tDone n bc sc bu hq c (zlr 2 9 9 (q6_setSluice m x)) (fun m1 => q8_setSluice m1 x) := by
  by_cases c3 : x < 0
  · skip
    exact tx_fail R (k := 2) (by decide) (show q6_setSluice m x = _ by unfold q6_setSluice; rw [if_pos c3]) (j := 1) (show q8_setSluice m x = _ by unfold q8_setSluice; rw [if_pos (t_isIn_lo c3)]) (by decide) (by decide)
  by_cases c4 : x ≤ 20
  rotate_left
  · skip
    exact tx_fail R (k := 2) (by decide) (show q6_setSluice m x = _ by unfold q6_setSluice; rw [if_neg c3, if_neg c4]) (j := 1) (show q8_setSluice m x = _ by unfold q8_setSluice; rw [if_pos (t_isIn_hi (t_nle c4))]) (by decide) (by decide)
  obtain ⟨ex, -, lx⟩ := zx_natl (a := 0) (n := 20) (by decide) (by decide) c3 c4
  refine tx_w R (by decide) (r := m (1, 0, 0) 8) (mc := zs m (1, 0, 0) 8 x) (mo := fun m1 => zs (q8_z m1) (13, 0, 0) 2 x) (by unfold q6_setSluice; rw [if_neg c3, if_pos c4]) (fun k hk => zs_ne (tk_ne hk zt_1)) (fun m1 R1 => ?_) (fun m1 => (congrFun (zs_k (zk rfl)) 0).trans q8_z12) (fun m1 => fm_s fm_z nc13) (fun m1 R1 => ?_)
  · show q8_setSluice m1 x = _
    obtain ⟨s, -, e1, e2⟩ := R1.2.1.2.2.2.2.2.2.1
    unfold q8_setSluice
    rw [if_neg (t_isIn c3 (t_len c4)), e1, e2]
  · have h9 := RQ_setSluice R1 lx rfl rfl
    rw [← ex] at h9
    exact ⟨_, _, _, _, _, _, RQ_up h9 (Nat.le_succ n)⟩

theorem tc_addBox (R : RQ m m n bc sc bu hq f c) (hn : n < 512)  : tDone n bc sc bu hq c (zlr 3 9 9 (q6_addBox m bc)) (fun m1 => q8_addBox m1 bc) := by
  have hb4 : bc ≤ 4 := R.2.1.2.2.1
  by_cases c1 : bc = 4
  · skip
    have z1 : ¬ nI bc < 4 := by rw [c1]; decide
    have z2 : nI bc = 4 := by rw [c1]; rfl
    exact tx_fail R (k := 3) (by decide) (show q6_addBox m bc = _ by unfold q6_addBox; rw [if_neg z1]) (j := 1) (show q8_addBox m bc = _ by unfold q8_addBox; rw [if_pos z2]) (by decide) (by decide)
  have z1 : nI bc < 4 := (nI_ltI (a := bc) (b := 4) (by omega) (by decide)).mpr (by omega)
  have z2 : ¬ nI bc = 4 := fun q => c1 ((nI_eq (a := bc) (b := 4) (by omega) (by decide)).mp q)
  refine tx_w R (by decide) (r := zs m (1, 0, 0) 9 (nI bc + 1) (1, 0, 0) 9 - 1) (mc := zs m (1, 0, 0) 9 (nI bc + 1)) (mo := fun m1 => (q8_addBox m1 bc).2) (by unfold q6_addBox; rw [if_pos z1]) (fun k hk => zs_ne (tk_ne hk zt_1)) (fun m1 R1 => ?_) (fun m1 => ?_) (fun m1 => ?_) (fun m1 R1 => ?_)
  · show q8_addBox m1 bc = (_, (q8_addBox m1 bc).2)
    unfold q8_addBox
    rw [if_neg z2]
    dsimp only
    rw [zs_eq rfl, zs_eq rfl, zs_k (zk rfl), zs_k (zk rfl), R1.2.1.2.1]
  · unfold q8_addBox
    rw [if_neg z2]
    dsimp only
    rw [zs_k (zk rfl), zs_k (zk rfl), zs_k (zk rfl)]
    exact q8_z12
  · unfold q8_addBox
    rw [if_neg z2]
    exact fm_s (fm_s (fm_s fm_z (nc2 (by decide))) (nc2 (by decide))) nc13
  · have h9 := RQ_addBox R1 (by omega) rfl rfl
    have e8 : (q8_addBox m1 bc).2 = zs (zs (zs (q8_z m1) (2, 15 + 20 * 0, 4) bc 50) (2, 17 + 20 * 0, 4) bc 5) (13, 0, 0) 4 (nI (bc + 1)) := by
      unfold q8_addBox
      rw [if_neg z2]
      show zs _ _ _ (zs _ _ _ _ (13, 0, 0) 4 + 1) = _
      rw [zs_k (zk rfl), zs_k (zk rfl), R1.2.1.2.1, nI_1]
    rw [e8, nI_1]
    exact ⟨_, _, _, _, _, _, RQ_up h9 (Nat.le_succ n)⟩

theorem tc_hang (R : RQ m m n bc sc bu hq f c) (hn : n < 512) (b x y : Int32) : tDone n bc sc bu hq c (zlr 1 2 3 (q6_hang m bc sc b x y)) (fun m1 => q8_hang m1 sc b x y) := by
  by_cases cb : q6_bn b bc = 0
  rotate_left
  · skip
    exact tx_fail R (k := 1) (by decide) (show q6_hang m bc sc b x y = _ by unfold q6_hang; rw [if_neg cb, (t_nbox (rq_bc R) cb).2]) (j := 1) (show q8_hang m sc b x y = _ by unfold q8_hang; rw [rq_z4 R, if_pos (t_nbox (rq_bc R) cb).1]) (by decide) (by decide)
  obtain ⟨eb, lb⟩ := q6_bn_ok (by have := rq_bc R; omega) cb
  have ib := t_box (rq_bc R) cb
  by_cases c1 : x < 10
  · skip
    exact tx_fail R (k := 2) (by decide) (show q6_hang m bc sc b x y = _ by unfold q6_hang; rw [if_pos cb, if_pos c1]) (j := 2) (show q8_hang m sc b x y = _ by unfold q8_hang; rw [rq_z4 R, if_neg ib, if_pos (t_isIn_lo c1)]) (by decide) (by decide)
  by_cases c2 : x ≤ 60
  rotate_left
  · skip
    exact tx_fail R (k := 2) (by decide) (show q6_hang m bc sc b x y = _ by unfold q6_hang; rw [if_pos cb, if_neg c1, if_neg c2]) (j := 2) (show q8_hang m sc b x y = _ by unfold q8_hang; rw [rq_z4 R, if_neg ib, if_pos (t_isIn_hi (t_nle c2))]) (by decide) (by decide)
  by_cases c3 : y < 1
  · skip
    exact tx_fail R (k := 2) (by decide) (show q6_hang m bc sc b x y = _ by unfold q6_hang; rw [if_pos cb, if_neg c1, if_pos c2, if_pos c3]) (j := 2) (show q8_hang m sc b x y = _ by unfold q8_hang; rw [rq_z4 R, if_neg ib, if_neg (t_isIn c1 (t_len c2)), if_pos (t_isIn_lo c3)]) (by decide) (by decide)
  by_cases c4 : y ≤ 4
  rotate_left
  · skip
    exact tx_fail R (k := 2) (by decide) (show q6_hang m bc sc b x y = _ by unfold q6_hang; rw [if_pos cb, if_neg c1, if_pos c2, if_neg c3, if_neg c4]) (j := 2) (show q8_hang m sc b x y = _ by unfold q8_hang; rw [rq_z4 R, if_neg ib, if_neg (t_isIn c1 (t_len c2)), if_pos (t_isIn_hi (t_nle c4))]) (by decide) (by decide)
  have hsc := rq_sc R lb
  by_cases c5 : sc b.toNatClampNeg = 4
  · skip
    have z1 : ¬ nI (sc b.toNatClampNeg) < 4 := by rw [c5]; decide
    have z2 : nI (sc b.toNatClampNeg) = 4 := by rw [c5]; rfl
    exact tx_fail R (k := 3) (by decide) (show q6_hang m bc sc b x y = _ by unfold q6_hang; rw [if_pos cb, if_neg c1, if_pos c2, if_neg c3, if_pos c4, if_neg z1]) (j := 3) (show q8_hang m sc b x y = _ by unfold q8_hang; rw [rq_z4 R, if_neg ib, if_neg (t_isIn c1 (t_len c2)), if_neg (t_isIn c3 (t_len c4)), if_pos z2]) (by decide) (by decide)
  have z1 : nI (sc b.toNatClampNeg) < 4 := (nI_ltI (b := 4) (by omega) (by decide)).mpr (by omega)
  have z2 : ¬ nI (sc b.toNatClampNeg) = 4 := fun q => c5 ((nI_eq (b := 4) (by omega) (by decide)).mp q)
  obtain ⟨ex, -, lx⟩ := zx_natl (a := 10) (n := 60) (by decide) (by decide) c1 c2
  obtain ⟨ey, -, ly⟩ := zx_natl (a := 1) (n := 4) (by decide) (by decide) c3 c4
  have e8 : ∀ m1, RQ m (q8_z m1) n bc sc bu hq f c → q8_hang m1 sc b x y = (nI (sc b.toNatClampNeg + 1), zs (zs (zs (zs (q8_z m1) (2, 12 + 20 * 0, 16) (4 * b.toNatClampNeg + sc b.toNatClampNeg) x) (2, 13 + 20 * 0, 16) (4 * b.toNatClampNeg + sc b.toNatClampNeg) y) (2, 14 + 20 * 0, 16) (4 * b.toNatClampNeg + sc b.toNatClampNeg) 0) (2, 11 + 20 * 0, 4) b.toNatClampNeg (nI (sc b.toNatClampNeg + 1))) := fun m1 R1 => by
    obtain ⟨N, -, g2, -⟩ := rq_box R1 lb
    unfold q8_hang
    rw [R1.2.1.2.1, if_neg ib, if_neg (t_isIn c1 (t_len c2)), if_neg (t_isIn c3 (t_len c4)), if_neg z2]
    dsimp only
    rw [zs_eq rfl, zs_ne (z2_ne (by decide)), zs_ne (z2_ne (by decide)), zs_ne (z2_ne (by decide)), g2, nI_1]
  have ea : q_addStamp m 0 b.toNatClampNeg (sc b.toNatClampNeg) x y (4, 0, b.toNatClampNeg) 4 = nI (sc b.toNatClampNeg + 1) := by
    obtain ⟨N, g1, -⟩ := rq_box R lb
    unfold q_addStamp
    rw [zs_eq rfl, zs_k (zk rfl), zs_k (zk rfl), g1, nI_1]
  refine tx_w R (by decide) (r := nI (sc b.toNatClampNeg + 1)) (mc := q_addStamp m 0 b.toNatClampNeg (sc b.toNatClampNeg) x y) (mo := fun m1 => zs (zs (zs (zs (q8_z m1) (2, 12 + 20 * 0, 16) (4 * b.toNatClampNeg + sc b.toNatClampNeg) x) (2, 13 + 20 * 0, 16) (4 * b.toNatClampNeg + sc b.toNatClampNeg) y) (2, 14 + 20 * 0, 16) (4 * b.toNatClampNeg + sc b.toNatClampNeg) 0) (2, 11 + 20 * 0, 4) b.toNatClampNeg (nI (sc b.toNatClampNeg + 1))) (by unfold q6_hang; rw [if_pos cb, if_neg c1, if_pos c2, if_neg c3, if_pos c4, if_pos z1, ea]) (fun k hk => ?_) e8 (fun m1 => ?_) (fun m1 => fm_s (fm_s (fm_s (fm_s fm_z (nc2 (by decide))) (nc2 (by decide))) (nc2 (by decide))) (nc2 (by decide))) (fun m1 R1 => ?_)
  · unfold q_addStamp
    rw [zs_ne (tk_ne hk zt_4), zs_ne (tk_ne hk zt_6), zs_ne (tk_ne hk zt_6)]
  · rw [zs_k (zk rfl), zs_k (zk rfl), zs_k (zk rfl), zs_k (zk rfl)]
    exact q8_z12
  · have h9 := RQ_hang R1 lb (by omega) lx ly rfl rfl
    rw [← ex, ← ey] at h9
    exact ⟨_, _, _, _, _, _, RQ_up h9 (Nat.le_succ n)⟩

theorem tc_shoe (R : RQ m m n bc sc bu hq f c) (hn : n < 512) (b k : Int32) : tDone n bc sc bu hq c (zlr 1 9 9 (q6_shoe m bc sc b k)) (fun m1 => q8_shoe m1 sc b k) := by
  by_cases cb : q6_bn b bc = 0
  rotate_left
  · skip
    exact tx_fail R (k := 1) (by decide) (show q6_shoe m bc sc b k = _ by unfold q6_shoe; rw [if_neg cb, (t_nbox (rq_bc R) cb).2]) (j := 1) (show q8_shoe m sc b k = _ by unfold q8_shoe; rw [rq_z4 R, if_pos (t_nbox (rq_bc R) cb).1]) (by decide) (by decide)
  obtain ⟨eb, lb⟩ := q6_bn_ok (by have := rq_bc R; omega) cb
  have ib := t_box (rq_bc R) cb
  have hsc := rq_sc R lb
  have ls : sc b.toNatClampNeg < 2 ^ 30 := by omega
  by_cases c1 : k < 0
  · skip
    exact tx_fail R (k := 1) (by decide) (show q6_shoe m bc sc b k = _ by unfold q6_shoe; rw [if_pos cb, if_pos c1]) (j := 1) (show q8_shoe m sc b k = _ by unfold q8_shoe; rw [rq_z4 R, if_neg ib, if_pos (t_isIn_lo c1)]) (by decide) (by decide)
  by_cases c2 : k < nI (sc b.toNatClampNeg)
  rotate_left
  · skip
    exact tx_fail R (k := 1) (by decide) (show q6_shoe m bc sc b k = _ by unfold q6_shoe; rw [if_pos cb, if_neg c1, if_neg c2]) (j := 1) (show q8_shoe m sc b k = _ by unfold q8_shoe; rw [rq_z4 R, if_neg ib, if_pos (t_isIn_hi (t_nlt (t_pred ls) c2))]) (by decide) (by decide)
  obtain ⟨ek, lk⟩ := zx_nat (by omega) c1 c2
  refine tx_w R (by decide) (r := m (6, 0, 4 * b.toNatClampNeg + k.toNatClampNeg) 2) (mc := zs m (6, 0, 4 * b.toNatClampNeg + k.toNatClampNeg) 2 0) (mo := fun m1 => zs (q8_z m1) (2, 14 + 20 * 0, 16) (4 * b.toNatClampNeg + k.toNatClampNeg) 0) (by unfold q6_shoe; rw [if_pos cb, if_neg c1, if_pos c2]) (fun k hk => zs_ne (tk_ne hk zt_6)) (fun m1 R1 => ?_) (fun m1 => (congrFun (zs_k (zk rfl)) 0).trans q8_z12) (fun m1 => fm_s fm_z (nc2 (by decide))) (fun m1 R1 => ⟨_, _, _, _, _, _, RQ_up (RQ_shoe R1 lb lk rfl rfl) (Nat.le_succ n)⟩)
  show q8_shoe m1 sc b k = _
  obtain ⟨N, hB⟩ := rq_box R1 lb
  obtain ⟨p, q, u, -, -, x2, -, -, y2, -⟩ := hB.2.2.2.2.2.2.2.2.2.1 _ lk
  unfold q8_shoe
  rw [R1.2.1.2.1, if_neg ib, if_neg (t_isIn c1 (t_ltn (t_pred ls) c2)), x2, y2]

theorem tc_setBox (R : RQ m m n bc sc bu hq f c) (hn : n < 512) (b x y : Int32) : tDone n bc sc bu hq c (zlr 1 2 9 (q6_setBox m bc b x y)) (fun m1 => q8_setBox m1 b x y) := by
  by_cases cb : q6_bn b bc = 0
  rotate_left
  · skip
    exact tx_fail R (k := 1) (by decide) (show q6_setBox m bc b x y = _ by unfold q6_setBox; rw [if_neg cb, (t_nbox (rq_bc R) cb).2]) (j := 1) (show q8_setBox m b x y = _ by unfold q8_setBox; rw [rq_z4 R, if_pos (t_nbox (rq_bc R) cb).1]) (by decide) (by decide)
  obtain ⟨eb, lb⟩ := q6_bn_ok (by have := rq_bc R; omega) cb
  have ib := t_box (rq_bc R) cb
  by_cases c1 : x < 0
  · skip
    exact tx_fail R (k := 2) (by decide) (show q6_setBox m bc b x y = _ by unfold q6_setBox; rw [if_pos cb, if_pos c1]) (j := 2) (show q8_setBox m b x y = _ by unfold q8_setBox; rw [rq_z4 R, if_neg ib, if_pos (t_isIn_lo c1)]) (by decide) (by decide)
  by_cases c2 : x ≤ 300
  rotate_left
  · skip
    exact tx_fail R (k := 2) (by decide) (show q6_setBox m bc b x y = _ by unfold q6_setBox; rw [if_pos cb, if_neg c1, if_neg c2]) (j := 2) (show q8_setBox m b x y = _ by unfold q8_setBox; rw [rq_z4 R, if_neg ib, if_pos (t_isIn_hi (t_nle c2))]) (by decide) (by decide)
  by_cases c3 : y < 0
  · skip
    exact tx_fail R (k := 2) (by decide) (show q6_setBox m bc b x y = _ by unfold q6_setBox; rw [if_pos cb, if_neg c1, if_pos c2, if_pos c3]) (j := 2) (show q8_setBox m b x y = _ by unfold q8_setBox; rw [rq_z4 R, if_neg ib, if_neg (t_isIn c1 (t_len c2)), if_pos (t_isIn_lo c3)]) (by decide) (by decide)
  by_cases c4 : y < 3
  rotate_left
  · skip
    exact tx_fail R (k := 2) (by decide) (show q6_setBox m bc b x y = _ by unfold q6_setBox; rw [if_pos cb, if_neg c1, if_pos c2, if_neg c3, if_neg c4]) (j := 2) (show q8_setBox m b x y = _ by unfold q8_setBox; rw [rq_z4 R, if_neg ib, if_neg (t_isIn c1 (t_len c2)), if_pos (t_isIn_hi (t_nlt rfl c4))]) (by decide) (by decide)
  obtain ⟨ex, -, lx⟩ := zx_natl (a := 0) (n := 300) (by decide) (by decide) c1 c2
  obtain ⟨ey, ly⟩ := zx_nat (n := 3) (by decide) c3 c4
  refine tx_w R (by decide) (r := m (4, 0, b.toNatClampNeg) 5) (mc := zs (zs m (4, 0, b.toNatClampNeg) 5 x) (4, 0, b.toNatClampNeg) 6 y) (mo := fun m1 => zs (zs (q8_z m1) (2, 15 + 20 * 0, 4) b.toNatClampNeg x) (2, 16 + 20 * 0, 4) b.toNatClampNeg y) (by unfold q6_setBox; rw [if_pos cb, if_neg c1, if_pos c2, if_neg c3, if_pos c4]) (fun k hk => by rw [zs_ne (tk_ne hk zt_4), zs_ne (tk_ne hk zt_4)]) (fun m1 R1 => ?_) (fun m1 => ?_) (fun m1 => fm_s (fm_s fm_z (nc2 (by decide))) (nc2 (by decide))) (fun m1 R1 => ?_)
  · show q8_setBox m1 b x y = _
    obtain ⟨N, hB⟩ := rq_box R1 lb
    obtain ⟨F, -, x2, y2⟩ := hB.2.2.2.2.2.2.1
    unfold q8_setBox
    rw [R1.2.1.2.1, if_neg ib, if_neg (t_isIn c1 (t_len c2)), if_neg (t_isIn c3 (t_ltn rfl c4)), x2, y2]
  · rw [zs_k (zk rfl), zs_k (zk rfl)]
    exact q8_z12
  · have h9 := RQ_setBox R1 lb lx ly rfl rfl
    rw [← ex, ← ey] at h9
    exact ⟨_, _, _, _, _, _, RQ_up h9 (Nat.le_succ n)⟩

theorem tc_box (R : RQ m m n bc sc bu hq f c) (hn : n < 512) (b k : Int32) : tDone n bc sc bu hq c (zlr 1 9 9 (q6_box m bc sc b k)) (fun m1 => q8_box m1 sc b k) := by
  by_cases cb : q6_bn b bc = 0
  rotate_left
  · skip
    exact tx_fail R (k := 1) (by decide) (show q6_box m bc sc b k = _ by unfold q6_box; rw [if_neg cb, (t_nbox (rq_bc R) cb).2]) (j := 1) (show q8_box m sc b k = _ by unfold q8_box; rw [rq_z4 R, if_pos (t_nbox (rq_bc R) cb).1]) (by decide) (by decide)
  obtain ⟨eb, lb⟩ := q6_bn_ok (by have := rq_bc R; omega) cb
  have ib := t_box (rq_bc R) cb
  by_cases c1 : k < 0
  · skip
    exact tx_fail R (k := 1) (by decide) (show q6_box m bc sc b k = _ by unfold q6_box; rw [if_pos cb, if_pos c1]) (j := 1) (show q8_box m sc b k = _ by unfold q8_box; rw [rq_z4 R, if_neg ib, if_pos (t_isIn_lo c1)]) (by decide) (by decide)
  by_cases c2 : k < 12
  rotate_left
  · skip
    exact tx_fail R (k := 1) (by decide) (show q6_box m bc sc b k = _ by unfold q6_box; rw [if_pos cb, if_neg c1, if_neg c2]) (j := 1) (show q8_box m sc b k = _ by unfold q8_box; rw [rq_z4 R, if_neg ib, if_pos (t_isIn_hi (t_nlt rfl c2))]) (by decide) (by decide)
  obtain ⟨ek, lk⟩ := zx_nat (n := 12) (by decide) c1 c2
  refine tx_r R (by decide) (r := q_tellBox m 0 b.toNatClampNeg (sc b.toNatClampNeg) k) (by unfold q6_box; rw [if_pos cb, if_neg c1, if_pos c2]) (fun m1 R1 => ?_)
  show q8_box m1 sc b k = _
  have h9 := ans_box R1 lb (k := k.toNatClampNeg) (by omega)
  rw [← ek] at h9
  unfold q8_box
  rw [R1.2.1.2.1, if_neg ib, if_neg (t_isIn c1 (t_ltn rfl c2)), h9]

theorem tc_bring (R : RQ m m n bc sc bu hq f c) (hn : n < 512) (x y z : Int32) : tDone n bc sc bu hq c (zlr 2 3 9 (q6_bring m f c x y z)) (fun m1 => q8_bring m1 c x y z) := by
  by_cases c1 : x < 1
  · skip
    exact tx_fail R (k := 2) (by decide) (show q6_bring m f c x y z = _ by unfold q6_bring; rw [if_pos c1]) (j := 1) (show q8_bring m c x y z = _ by unfold q8_bring; rw [if_pos (t_isIn_lo c1)]) (by decide) (by decide)
  by_cases c2 : x ≤ 5000
  rotate_left
  · skip
    exact tx_fail R (k := 2) (by decide) (show q6_bring m f c x y z = _ by unfold q6_bring; rw [if_neg c1, if_neg c2]) (j := 1) (show q8_bring m c x y z = _ by unfold q8_bring; rw [if_pos (t_isIn_hi (t_nle c2))]) (by decide) (by decide)
  by_cases c3 : y < 0
  · skip
    exact tx_fail R (k := 2) (by decide) (show q6_bring m f c x y z = _ by unfold q6_bring; rw [if_neg c1, if_pos c2, if_pos c3]) (j := 1) (show q8_bring m c x y z = _ by unfold q8_bring; rw [if_neg (t_isIn c1 (t_len c2)), if_pos (t_isIn_lo c3)]) (by decide) (by decide)
  by_cases c4 : y ≤ 1000
  rotate_left
  · skip
    exact tx_fail R (k := 2) (by decide) (show q6_bring m f c x y z = _ by unfold q6_bring; rw [if_neg c1, if_pos c2, if_neg c3, if_neg c4]) (j := 1) (show q8_bring m c x y z = _ by unfold q8_bring; rw [if_neg (t_isIn c1 (t_len c2)), if_pos (t_isIn_hi (t_nle c4))]) (by decide) (by decide)
  by_cases c5 : z < 1
  · skip
    exact tx_fail R (k := 2) (by decide) (show q6_bring m f c x y z = _ by unfold q6_bring; rw [if_neg c1, if_pos c2, if_neg c3, if_pos c4, if_pos c5]) (j := 1) (show q8_bring m c x y z = _ by unfold q8_bring; rw [if_neg (t_isIn c1 (t_len c2)), if_neg (t_isIn c3 (t_len c4)), if_pos (t_isIn_lo c5)]) (by decide) (by decide)
  by_cases c6 : z ≤ 9
  rotate_left
  · skip
    exact tx_fail R (k := 2) (by decide) (show q6_bring m f c x y z = _ by unfold q6_bring; rw [if_neg c1, if_pos c2, if_neg c3, if_pos c4, if_neg c5, if_neg c6]) (j := 1) (show q8_bring m c x y z = _ by unfold q8_bring; rw [if_neg (t_isIn c1 (t_len c2)), if_neg (t_isIn c3 (t_len c4)), if_pos (t_isIn_hi (t_nle c6))]) (by decide) (by decide)
  have hc := rq_c R
  by_cases c7 : c = 30
  · skip
    have z1 : q6_fh c = 3 := by unfold q6_fh; rw [if_neg (by rw [c7]; decide)]
    have z2 : nI c = 30 := by rw [c7]; rfl
    exact tx_fail R (k := 3) (by decide) (show q6_bring m f c x y z = _ by unfold q6_bring; rw [if_neg c1, if_pos c2, if_neg c3, if_pos c4, if_neg c5, if_pos c6, if_neg (by rw [z1]; decide), z1]) (j := 2) (show q8_bring m c x y z = _ by unfold q8_bring; rw [if_neg (t_isIn c1 (t_len c2)), if_neg (t_isIn c3 (t_len c4)), if_neg (t_isIn c5 (t_len c6)), if_pos z2]) (by decide) (by decide)
  have z1 : q6_fh c = 0 := if_pos ((nI_ltI (a := c) (b := 30) (by omega) (by decide)).mpr (by omega))
  have z2 : ¬ nI c = 30 := fun q => c7 ((nI_eq (b := 30) (by omega) (by decide)).mp q)
  obtain ⟨ex, lx0, lx⟩ := zx_natl (a := 1) (n := 5000) (by decide) (by decide) c1 c2
  obtain ⟨ey, -, ly⟩ := zx_natl (a := 0) (n := 1000) (by decide) (by decide) c3 c4
  obtain ⟨ez, lz0, lz⟩ := zx_natl (a := 1) (n := 9) (by decide) (by decide) c5 c6
  obtain ⟨T, eT⟩ : ∃ T, T = x.toNatClampNeg * y.toNatClampNeg / 1000 := ⟨_, rfl⟩
  have lT : T ≤ x.toNatClampNeg := by rw [eT]; exact Nat.div_le_of_le_mul (by rw [Nat.mul_comm]; exact Nat.mul_le_mul_right _ ly)
  have lm : x.toNatClampNeg * y.toNatClampNeg ≤ 5000 * 1000 := Nat.mul_le_mul lx ly
  have e1 : x * y / 1000 = nI T := by
    have e0 : x * y = nI (x.toNatClampNeg * y.toNatClampNeg) := (congr (congrArg _ ex) ey).trans (pk_mul _ _)
    rw [e0, eT]
    exact pk_div (d := 1000) (by omega) (by decide) (by decide)
  have e2 : x - x * y / 1000 = nI (x.toNatClampNeg - T) := by rw [e1]; exact (congrArg (fun q => q - nI T) ex).trans (pk_sub lT)
  have e3 : q6_bringM m f c x y z = q_addLot m 0 ((f + c) % 30) (nI (x.toNatClampNeg - T)) (nI T) (nI z.toNatClampNeg) := by unfold q6_bringM; rw [e2, e1, ← ez]
  have e4 : q_addLot m 0 ((f + c) % 30) (nI (x.toNatClampNeg - T)) (nI T) (nI z.toNatClampNeg) (8, 0, 0) 2 = nI (c + 1) := by unfold q_addLot q_become; rw [zs_eq rfl, zs_k (zk rfl), zs_k (zk rfl), zs_k (zk rfl), R.2.2.1.2.2.1, nI_1]
  refine tx_w R (by decide) (r := nI (c + 1)) (mc := q_addLot m 0 ((f + c) % 30) (nI (x.toNatClampNeg - T)) (nI T) (nI z.toNatClampNeg)) (mo := fun m1 => q_addLot7 (q8_z m1) 0 c (nI (x.toNatClampNeg - T)) (nI T) (nI z.toNatClampNeg)) (by unfold q6_bring; rw [if_neg c1, if_pos c2, if_neg c3, if_pos c4, if_neg c5, if_pos c6, if_pos z1, e3, e4]) (fun k hk => ?_) (fun m1 R1 => ?_) (fun m1 => ?_) (fun m1 => fm_addLot fm_z) (fun m1 R1 => ⟨_, _, _, _, _, _, RQ_up (RQ_bring R1 (by omega) (by omega) (by omega) lz0 lz rfl rfl) (Nat.le_succ n)⟩)
  · exact zf_addLot zf_rf _ (tmk_zt (by decide) hk)
  · show q8_bring m1 c x y z = _
    unfold q8_bring
    rw [if_neg (t_isIn c1 (t_len c2)), if_neg (t_isIn c3 (t_len c4)), if_neg (t_isIn c5 (t_len c6)), if_neg z2]
    dsimp only
    rw [e2, e1, ← ez]
    have e9 : q_addLot7 (q8_z m1) 0 c (nI (x.toNatClampNeg - T)) (nI T) z (13, 0, 0) 14 = nI (c + 1) := by unfold q_addLot7; rw [zs_eq rfl, zs_k (zk rfl), zs_k (zk rfl), zs_k (zk rfl), R1.2.2.1.2.2.2.1, nI_1]
    rw [e9]
  · unfold q_addLot7
    rw [zs_k (zk rfl), zs_k (zk rfl), zs_k (zk rfl), zs_k (zk rfl)]
    exact q8_z12

theorem tc_lot (R : RQ m m n bc sc bu hq f c) (hn : n < 512) (i k : Int32) : tDone n bc sc bu hq c (zlr 1 9 9 (q6_lot m f c i k)) (fun m1 => q8_lot m1 c i k) := by
  have hc := rq_c R
  have lc : c < 2 ^ 30 := by omega
  by_cases c1 : i < 0
  · skip
    exact tx_fail R (k := 1) (by decide) (show q6_lot m f c i k = _ by unfold q6_lot; rw [if_pos c1]) (j := 1) (show q8_lot m c i k = _ by unfold q8_lot; rw [if_pos (t_isIn_lo c1)]) (by decide) (by decide)
  by_cases c2 : i < nI c
  rotate_left
  · skip
    exact tx_fail R (k := 1) (by decide) (show q6_lot m f c i k = _ by unfold q6_lot; rw [if_neg c1, if_neg c2]) (j := 1) (show q8_lot m c i k = _ by unfold q8_lot; rw [if_pos (t_isIn_hi (t_nlt (t_pred lc) c2))]) (by decide) (by decide)
  by_cases c3 : k < 0
  · skip
    exact tx_fail R (k := 1) (by decide) (show q6_lot m f c i k = _ by unfold q6_lot; rw [if_neg c1, if_pos c2, if_pos c3]) (j := 1) (show q8_lot m c i k = _ by unfold q8_lot; rw [if_neg (t_isIn c1 (t_ltn (t_pred lc) c2)), if_pos (t_isIn_lo c3)]) (by decide) (by decide)
  by_cases c4 : k < 3
  rotate_left
  · skip
    exact tx_fail R (k := 1) (by decide) (show q6_lot m f c i k = _ by unfold q6_lot; rw [if_neg c1, if_pos c2, if_neg c3, if_neg c4]) (j := 1) (show q8_lot m c i k = _ by unfold q8_lot; rw [if_neg (t_isIn c1 (t_ltn (t_pred lc) c2)), if_pos (t_isIn_hi (t_nlt rfl c4))]) (by decide) (by decide)
  obtain ⟨ei, li⟩ := zx_nat (by omega) c1 c2
  obtain ⟨ek, lk⟩ := zx_nat (n := 3) (by decide) c3 c4
  refine tx_r R (by decide) (r := q_tellLot m 0 ((f + i.toNatClampNeg) % 30) k) (by unfold q6_lot; rw [if_neg c1, if_pos c2, if_neg c3, if_pos c4]) (fun m1 R1 => ?_)
  show q8_lot m1 c i k = _
  have h9 := ans_lot R1 li (k := k.toNatClampNeg) (by omega)
  rw [← ek] at h9
  unfold q8_lot
  rw [if_neg (t_isIn c1 (t_ltn (t_pred lc) c2)), if_neg (t_isIn c3 (t_ltn rfl c4)), h9]

theorem tc_count (R : RQ m m n bc sc bu hq f c) (hn : n < 512) (k : Int32) : tDone n bc sc bu hq c (zlr 1 9 9 (q6_count m bc sc f c k)) (fun m1 => q8_count m1 bc c sc k) := by
  by_cases c1 : k < 0
  · skip
    exact tx_fail R (k := 1) (by decide) (show q6_count m bc sc f c k = _ by unfold q6_count; rw [if_pos c1]) (j := 1) (show q8_count m bc c sc k = _ by unfold q8_count; rw [if_pos (t_isIn_lo c1)]) (by decide) (by decide)
  by_cases c2 : k < 14
  rotate_left
  · skip
    exact tx_fail R (k := 1) (by decide) (show q6_count m bc sc f c k = _ by unfold q6_count; rw [if_neg c1, if_neg c2]) (j := 1) (show q8_count m bc c sc k = _ by unfold q8_count; rw [if_pos (t_isIn_hi (t_nlt rfl c2))]) (by decide) (by decide)
  obtain ⟨ek, lk⟩ := zx_nat (n := 14) (by decide) c1 c2
  refine tx_r R (by decide) (r := q_tellWorks m 0 bc sc f c k) (by unfold q6_count; rw [if_neg c1, if_pos c2]) (fun m1 R1 => ?_)
  show q8_count m1 bc c sc k = _
  have h9 := ans_count R1 (k := k.toNatClampNeg) (by omega)
  rw [← ek] at h9
  unfold q8_count
  rw [if_neg (t_isIn c1 (t_ltn rfl c2)), h9]

theorem tc_buddle (R : RQ m m n bc sc bu hq f c) (hn : n < 512) (b k : Int32) : tDone n bc sc bu hq c (zlr 1 9 9 (q6_buddle m b k)) (fun m1 => q8_buddle m1 b k) := by
  by_cases cb : q6_ud b = 0
  rotate_left
  · skip
    exact tx_fail R (k := 1) (by decide) (show q6_buddle m b k = _ by unfold q6_buddle; rw [if_neg cb, (t_nud cb).2]) (j := 1) (show q8_buddle m b k = _ by unfold q8_buddle; rw [if_pos (t_nud cb).1]) (by decide) (by decide)
  obtain ⟨eb, lb⟩ := q6_ud_ok cb
  have ib := t_ud cb
  by_cases c1 : k < 0
  · skip
    exact tx_fail R (k := 1) (by decide) (show q6_buddle m b k = _ by unfold q6_buddle; rw [if_pos cb, if_pos c1]) (j := 1) (show q8_buddle m b k = _ by unfold q8_buddle; rw [if_neg ib, if_pos (t_isIn_lo c1)]) (by decide) (by decide)
  by_cases c2 : k < 3
  rotate_left
  · skip
    exact tx_fail R (k := 1) (by decide) (show q6_buddle m b k = _ by unfold q6_buddle; rw [if_pos cb, if_neg c1, if_neg c2]) (j := 1) (show q8_buddle m b k = _ by unfold q8_buddle; rw [if_neg ib, if_pos (t_isIn_hi (t_nlt rfl c2))]) (by decide) (by decide)
  obtain ⟨ek, lk⟩ := zx_nat (n := 3) (by decide) c1 c2
  refine tx_r R (by decide) (r := q_tellOre m (7, 0, 42 + b.toNatClampNeg) k) (by unfold q6_buddle; rw [if_pos cb, if_neg c1, if_pos c2]) (fun m1 R1 => ?_)
  show q8_buddle m1 b k = _
  have h9 := ans_bud R1 lb (k := k.toNatClampNeg) (by omega)
  rw [← ek] at h9
  unfold q8_buddle
  rw [if_neg ib, if_neg (t_isIn c1 (t_ltn rfl c2)), h9]
end TC
