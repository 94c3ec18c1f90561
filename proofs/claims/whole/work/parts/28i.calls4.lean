/-! foresee, advise, bestWater, share, digest: side by side (by program: wip/whole/sp20.py) -/
section TC3
variable {m ma mb : ZM} {n bc hq f c : Nat} {sc bu : Nat → Nat}
/-- what the hours ahead come to -/
theorem RQ_fore (R : RQ ma mb n bc sc bu hq f c) {N : Nat} (hN : hq + N ≤ 5000) : RQ (q6_foreM ma bc sc hq f c N) (q8_foreM mb bc sc bu hq N) n bc sc bu hq f c ∧ rS (q6_foreM ma bc sc hq f c N) (q8_foreM mb bc sc bu hq N) 1 bc (zsc (q_copyWorks ma 1 0 bc sc f c)) (zbu (q_copyWorks ma 1 0 bc sc f c)) (hq + N) ∧ q6_foreT ma bc sc hq f c N = q_runT7 (q_become7 mb 1 0) 1 bc sc bu hq N ∧ zfr 1 ma (q6_foreM ma bc sc hq f c N) ∧ (∀ k0, zah k0 → q8_foreM mb bc sc bu hq N k0 = mb k0) := by
  obtain ⟨hz, S⟩ := rS_copy R rfl rfl
  exact RQ_ahead R hN hz S (gW_copy (RQ_gW R) R.2.2.2.2.2.2 R.2.2.1.1 R.2.2.1.2.1) zC_works.1 (fun k0 h0 => q_become7_o h0)
theorem tc_foresee (R : RQ m m n bc sc bu hq f c) (hn : n < 512) (h k : Int32) : tDone n bc sc bu hq c (zlr 2 1 3 (q6_foresee m bc sc hq f c h k)) (fun m1 => q8_foresee m1 bc sc bu hq h k) := by
  by_cases c1 : h < 1
  · skip
    have z1 : q6_rh h 100 = 2 := if_pos c1
    exact tx_fail R (k := 2) (by decide) (show q6_foresee m bc sc hq f c h k = _ by unfold q6_foresee; rw [if_neg (by rw [z1]; decide), z1]) (j := 1) (show q8_foresee m bc sc bu hq h k = _ by unfold q8_foresee; rw [if_pos (t_isIn_lo c1)]) (by decide) (by decide)
  by_cases c2 : h ≤ 100
  rotate_left
  · skip
    have z1 : q6_rh h 100 = 2 := (if_neg c1).trans (if_neg c2)
    exact tx_fail R (k := 2) (by decide) (show q6_foresee m bc sc hq f c h k = _ by unfold q6_foresee; rw [if_neg (by rw [z1]; decide), z1]) (j := 1) (show q8_foresee m bc sc bu hq h k = _ by unfold q8_foresee; rw [if_pos (t_isIn_hi (t_nle c2))]) (by decide) (by decide)
  have z1 : q6_rh h 100 = 0 := (if_neg c1).trans (if_pos c2)
  have z2 : ¬ q_isIn h 1 100 = 0 := t_isIn c1 (t_len c2)
  obtain ⟨eh, lh0, lh⟩ := zx_natl (a := 1) (n := 100) (by decide) (by decide) c1 c2
  have lq : hq ≤ 5000 := R.1
  have e16 : m (1, 0, 0) 6 = nI hq := R.2.1.2.2.2.1
  have e5 : (5000 : Int32) - nI hq = nI (5000 - hq) := pk_sub (a := 5000) lq
  by_cases c4 : k < 0
  · skip
    exact tx_fail R (k := 1) (by decide) (show q6_foresee m bc sc hq f c h k = _ by unfold q6_foresee; rw [if_pos z1, if_pos c4]) (j := 2) (show q8_foresee m bc sc bu hq h k = _ by unfold q8_foresee; rw [if_neg z2, if_pos (t_isIn_lo c4)]) (by decide) (by decide)
  by_cases c5 : k < 5
  rotate_left
  · skip
    exact tx_fail R (k := 1) (by decide) (show q6_foresee m bc sc hq f c h k = _ by unfold q6_foresee; rw [if_pos z1, if_neg c4, if_neg c5]) (j := 2) (show q8_foresee m bc sc bu hq h k = _ by unfold q8_foresee; rw [if_neg z2, if_pos (t_isIn_hi (t_nlt rfl c5))]) (by decide) (by decide)
  have z5 : ¬ q_isIn k 0 4 = 0 := t_isIn c4 (t_ltn rfl c5)
  by_cases c3 : hq + h.toNatClampNeg ≤ 5000
  rotate_left
  · skip
    have z3 : q6_lh m h = 3 := by
      unfold q6_lh
      rw [e16, e5]
      exact if_neg (fun q => by rw [eh] at q; have := (nI_leI (by omega) (by omega)).mp q; omega)
    have z4 : ¬ nI hq + h ≤ 5000 := fun q => by
      rw [eh, nI_add] at q
      have := (nI_leI (b := 5000) (by omega) (by decide)).mp q
      omega
    exact tx_fail R (k := 3) (by decide) (show q6_foresee m bc sc hq f c h k = _ by unfold q6_foresee; rw [if_pos z1, if_neg c4, if_pos c5, if_neg (by rw [z3]; decide), z3]) (j := 3) (show q8_foresee m bc sc bu hq h k = _ by unfold q8_foresee; rw [if_neg z2, if_neg z5, if_neg z4]) (by decide) (by decide)
  have z3 : q6_lh m h = 0 := by
    unfold q6_lh
    rw [e16, e5]
    exact if_pos (by rw [eh]; exact (nI_leI (by omega) (by omega)).mpr (by omega))
  have z4 : nI hq + h ≤ 5000 := by
    rw [eh, nI_add]
    exact (nI_leI (b := 5000) (by omega) (by decide)).mpr (by omega)
  obtain ⟨ek, lk⟩ := zx_nat (n := 5) (by decide) c4 c5
  obtain ⟨N, eN⟩ : ∃ N, N = h.toNatClampNeg := ⟨_, rfl⟩
  rw [← eN] at c3
  have key : ∀ (r : Int32), q6_foresee m bc sc hq f c h k = (0, r, q6_foreM m bc sc hq f c N) → (∀ m1, RQ m (q8_z m1) n bc sc bu hq f c → q8_foresee m1 bc sc bu hq h k = (r, q8_foreM (q8_z m1) bc sc bu hq N)) → tDone n bc sc bu hq c (zlr 2 1 3 (q6_foresee m bc sc hq f c h k)) (fun m1 => q8_foresee m1 bc sc bu hq h k) := by
    intro r g6 g8
    refine tx_w R (by decide) (r := r) (mc := q6_foreM m bc sc hq f c N) (mo := fun m1 => q8_foreM (q8_z m1) bc sc bu hq N) g6 (fun k0 hk0 => (RQ_fore R c3).2.2.2.1 k0 (tmk_zt (by decide) hk0)) g8 (fun m1 => ?_) (fun m1 => fm_run (fm_become fm_z)) (fun m1 R1 => ⟨_, _, _, _, _, _, RQ_up (RQ_fore R1 c3).1 (Nat.le_succ n)⟩)
    unfold q8_foreM
    rw [q_runM7_o (zah_k (zk rfl) (by decide)), q_become7_o (zah_k (zk rfl) (by decide))]
    exact q8_z12
  rcases (show k.toNatClampNeg = 0 ∨ k.toNatClampNeg = 1 ∨ k.toNatClampNeg = 2 ∨ k.toNatClampNeg = 3 ∨ k.toNatClampNeg = 4 by omega) with e0 | e0 | e0 | e0 | e0
  · rw [e0] at ek
    have ek : k = 0 := ek
    subst ek
    refine key (q6_foreT m bc sc hq f c N) (by unfold q6_foresee; rw [if_pos z1, if_neg c4, if_pos c5, if_pos z3, if_pos (by decide), ← eN]) (fun m1 R1 => ?_)
    obtain ⟨h1, h2, h3, h4, h5⟩ := RQ_fore R1 c3
    unfold q8_foresee
    rw [if_neg z2, if_neg z5, if_pos z4, if_pos (by decide), ← eN]
    rw [h3]
  · rw [e0] at ek
    have ek : k = 1 := ek
    subst ek
    refine key (q6_foreM m bc sc hq f c N (1, 1, 0) 7) (by unfold q6_foresee; rw [if_pos z1, if_neg c4, if_pos c5, if_pos z3, if_neg (by decide), if_pos (by decide), ← eN]) (fun m1 R1 => ?_)
    obtain ⟨h1, h2, h3, h4, h5⟩ := RQ_fore R1 c3
    unfold q8_foresee
    rw [if_neg z2, if_neg z5, if_pos z4, if_neg (by decide), if_pos (by decide), ← eN]
    obtain ⟨P, -, p2, p3⟩ := h2.2.2.2.2.2.1
    rw [p2, p3]
  · rw [e0] at ek
    have ek : k = 2 := ek
    subst ek
    refine key (q_tinBuds (q6_foreM m bc sc hq f c N) 1 3) (by unfold q6_foresee; rw [if_pos z1, if_neg c4, if_pos c5, if_pos z3, if_neg (by decide), if_neg (by decide), if_pos (by decide), ← eN]) (fun m1 R1 => ?_)
    obtain ⟨h1, h2, h3, h4, h5⟩ := RQ_fore R1 c3
    unfold q8_foresee
    rw [if_neg z2, if_neg z5, if_pos z4, if_neg (by decide), if_neg (by decide), if_pos (by decide), ← eN]
    rw [ans_buds h2]
  · rw [e0] at ek
    have ek : k = 3 := ek
    subst ek
    refine key (q6_foreM m bc sc hq f c N (1, 1, 0) 10 - q6_foreM m bc sc hq f c N (1, 0, 0) 10) (by unfold q6_foresee; rw [if_pos z1, if_neg c4, if_pos c5, if_pos z3, if_neg (by decide), if_neg (by decide), if_neg (by decide), if_pos (by decide), ← eN]) (fun m1 R1 => ?_)
    obtain ⟨h1, h2, h3, h4, h5⟩ := RQ_fore R1 c3
    unfold q8_foresee
    rw [if_neg z2, if_neg z5, if_pos z4, if_neg (by decide), if_neg (by decide), if_neg (by decide), if_pos (by decide), ← eN]
    obtain ⟨z9, -, g1, g2⟩ := rq_slime h1
    obtain ⟨z8, N8, g3, g4, -⟩ := h2.2.2.2.2.2.2.2.2.2.2
    rw [g1, g2, g3, g4]
  · rw [e0] at ek
    have ek : k = 4 := ek
    subst ek
    refine key (q_oreLots (q6_foreM m bc sc hq f c N) 1 (q6_foreM m bc sc hq f c N (8, 1, 0) 1).toNatClampNeg (q6_foreM m bc sc hq f c N (8, 1, 0) 2).toNatClampNeg) (by unfold q6_foresee; rw [if_pos z1, if_neg c4, if_pos c5, if_pos z3, if_neg (by decide), if_neg (by decide), if_neg (by decide), if_neg (by decide), ← eN]) (fun m1 R1 => ?_)
    obtain ⟨h1, h2, h3, h4, h5⟩ := RQ_fore R1 c3
    unfold q8_foresee
    rw [if_neg z2, if_neg z5, if_pos z4, if_neg (by decide), if_neg (by decide), if_neg (by decide), if_neg (by decide), ← eN]
    obtain ⟨f2, c2, hL⟩ := h2.2.2.2.2.2.2.2.2.2.1
    have hf : f2 < 2 ^ 31 := by have := hL.2.1; omega
    have hc : c2 < 2 ^ 31 := by have := hL.2.2.2.2.1; omega
    rw [hL.1, hL.2.2.1, hL.2.2.2.1, nI_clamp hf, nI_clamp hc, ans_hop hL]

theorem q8_adv_fm {m m1 : ZM} {bc hq N : Nat} {sc go : Nat → Nat} {k : Nat} (h : fm m m1) : fm m (q8_advS m1 bc sc go hq N k).1 := by
  induction k with
  | zero => exact h
  | succ k ih =>
    have e : fm m (q8_advM (q8_advS m1 bc sc go hq N k).1 bc sc go hq N k) := fm_run (fm_s (fm_tr ih (fm_become fm_rf)) nc13)
    rw [q8_advS]
    split
    · exact e
    · exact e
theorem q8_adv_o {m : ZM} {bc hq N : Nat} {sc go : Nat → Nat} {k : Nat} {k0 : ZN} (h : zah k0) : (q8_advS m bc sc go hq N k).1 k0 = m k0 := by
  induction k with
  | zero => rfl
  | succ k ih =>
    have e : q8_advM (q8_advS m bc sc go hq N k).1 bc sc go hq N k k0 = m k0 := by
      unfold q8_advM
      rw [q_runM7_o h, zs_ne h.1, q_become7_o h, ih]
    rw [q8_advS]
    split
    · exact e
    · exact e

theorem tc_advise (R : RQ m m n bc sc bu hq f c) (hn : n < 512) (h : Int32) : tDone n bc sc bu hq c (zlr 2 3 9 (q6_advise m bc sc hq f c h)) (fun m1 => q8_advise m1 bc sc bu hq h) := by
  by_cases c1 : h < 1
  · skip
    have z1 : q6_rh h 48 = 2 := if_pos c1
    exact tx_fail R (k := 2) (by decide) (show q6_advise m bc sc hq f c h = _ by unfold q6_advise; rw [if_neg (by rw [z1]; decide), z1]) (j := 1) (show q8_advise m bc sc bu hq h = _ by unfold q8_advise; rw [if_pos (t_isIn_lo c1)]) (by decide) (by decide)
  by_cases c2 : h ≤ 48
  rotate_left
  · skip
    have z1 : q6_rh h 48 = 2 := (if_neg c1).trans (if_neg c2)
    exact tx_fail R (k := 2) (by decide) (show q6_advise m bc sc hq f c h = _ by unfold q6_advise; rw [if_neg (by rw [z1]; decide), z1]) (j := 1) (show q8_advise m bc sc bu hq h = _ by unfold q8_advise; rw [if_pos (t_isIn_hi (t_nle c2))]) (by decide) (by decide)
  have z1 : q6_rh h 48 = 0 := (if_neg c1).trans (if_pos c2)
  have z2 : ¬ q_isIn h 1 48 = 0 := t_isIn c1 (t_len c2)
  obtain ⟨eh, lh0, lh⟩ := zx_natl (a := 1) (n := 48) (by decide) (by decide) c1 c2
  have lq : hq ≤ 5000 := R.1
  have e16 : m (1, 0, 0) 6 = nI hq := R.2.1.2.2.2.1
  have e5 : (5000 : Int32) - nI hq = nI (5000 - hq) := pk_sub (a := 5000) lq
  by_cases c3 : hq + h.toNatClampNeg ≤ 5000
  rotate_left
  · skip
    have z3 : q6_lh m h = 3 := by
      unfold q6_lh
      rw [e16, e5]
      exact if_neg (fun q => by rw [eh] at q; have := (nI_leI (by omega) (by omega)).mp q; omega)
    have z4 : ¬ nI hq + h ≤ 5000 := fun q => by
      rw [eh, nI_add] at q
      have := (nI_leI (b := 5000) (by omega) (by decide)).mp q
      omega
    exact tx_fail R (k := 3) (by decide) (show q6_advise m bc sc hq f c h = _ by unfold q6_advise; rw [if_pos z1, if_neg (by rw [z3]; decide), z3]) (j := 2) (show q8_advise m bc sc bu hq h = _ by unfold q8_advise; rw [if_neg z2, if_neg z4]) (by decide) (by decide)
  have z3 : q6_lh m h = 0 := by
    unfold q6_lh
    rw [e16, e5]
    exact if_pos (by rw [eh]; exact (nI_leI (by omega) (by omega)).mpr (by omega))
  have z4 : nI hq + h ≤ 5000 := by
    rw [eh, nI_add]
    exact (nI_leI (b := 5000) (by omega) (by decide)).mpr (by omega)
  obtain ⟨N, eN⟩ : ∃ N, N = h.toNatClampNeg := ⟨_, rfl⟩
  rw [← eN] at c3
  refine tx_w R (by decide) (r := (q6_advS m bc sc hq f c N 21).2.1) (mc := (q6_advS m bc sc hq f c N 21).1) (mo := fun m1 => (q8_advS (q8_z m1) bc sc bu hq N 21).1) (by unfold q6_advise; rw [if_pos z1, if_pos z3, eN]) (fun k0 hk0 => (RQ_adv R c3 21 (by decide)).2.1 k0 (tmk_zt (by decide) hk0)) (fun m1 R1 => ?_) (fun m1 => ?_) (fun m1 => q8_adv_fm fm_z) (fun m1 R1 => ⟨_, _, _, _, _, _, RQ_up (RQ_adv R1 c3 21 (by decide)).1 (Nat.le_succ n)⟩)
  · show q8_advise m1 bc sc bu hq h = _
    unfold q8_advise
    rw [if_neg z2, if_pos z4, (RQ_adv R1 c3 21 (by decide)).2.2.2, ← eN]
  · rw [q8_adv_o (zah_k (zk rfl) (by decide))]
    exact q8_z12

theorem tc_bestWater (R : RQ m m n bc sc bu hq f c) (hn : n < 512) (b x : Int32) : tDone n bc sc bu hq c (zlr 1 2 9 (q6_bestWater m b x)) (fun m1 => q8_bestWater m1 b x) := by
  by_cases cb : q6_ud b = 0
  rotate_left
  · skip
    exact tx_fail R (k := 1) (by decide) (show q6_bestWater m b x = _ by unfold q6_bestWater; rw [if_neg cb, (t_nud cb).2]) (j := 1) (show q8_bestWater m b x = _ by unfold q8_bestWater; rw [if_pos (t_nud cb).1]) (by decide) (by decide)
  obtain ⟨eb, lb⟩ := q6_ud_ok cb
  have ib := t_ud cb
  by_cases c1 : 0 ≤ x
  rotate_left
  · skip
    exact tx_fail R (k := 2) (by decide) (show q6_bestWater m b x = _ by unfold q6_bestWater; rw [if_pos cb, if_neg c1]) (j := 2) (show q8_bestWater m b x = _ by unfold q8_bestWater; rw [if_neg ib, if_neg c1]) (by decide) (by decide)
  have ew : ∀ m1, RQ m (q8_z m1) n bc sc bu hq f c → ∃ B, B < 2 ^ 31 ∧ q_whole m (7, 0, 42 + b.toNatClampNeg) = nI B ∧ q_pair (q8_z m1) (2, 21 + 20 * 0, 6) (2 * b.toNatClampNeg) = nI B := fun m1 R1 => by
    obtain ⟨br, bt, u1, u2, u3, u4, u5⟩ := rq_bud R1 lb
    exact ⟨br + bt, by omega, by unfold q_whole; rw [u2, u3, nI_add], by unfold q_pair; rw [u4, u5, nI_add]⟩
  by_cases c2 : q_whole m (7, 0, 42 + b.toNatClampNeg) = 0
  · skip
    refine tx_r R (by decide) (r := -1) (by unfold q6_bestWater; rw [if_pos cb, if_pos c1, if_pos c2]) (fun m1 R1 => ?_)
    obtain ⟨B, hB, e1, e2⟩ := ew m1 R1
    show q8_bestWater m1 b x = _
    unfold q8_bestWater q8_bwR
    rw [if_neg ib, if_pos c1, e2, if_pos (by rw [← e1, c2]; decide)]
  refine tx_r R (by decide) (r := (q6_bwS m (42 + b.toNatClampNeg) x 81).1) (by unfold q6_bestWater; rw [if_pos cb, if_pos c1, if_neg c2]) (fun m1 R1 => ?_)
  obtain ⟨B, hB, e1, e2⟩ := ew m1 R1
  have e3 : ¬ nI B ≤ 0 := nI_nle (Nat.pos_of_ne_zero (fun q => c2 (by rw [e1, q]; rfl))) hB
  show q8_bestWater m1 b x = _
  unfold q8_bestWater q8_bwR
  rw [if_neg ib, if_pos c1, e2, if_neg e3, ans_water R1 lb x 81 (by decide)]

theorem t_i2d {s : Nat} (h : s < 2 ^ 31) : FP.l2d (lN s) = FP.i2d (nI s) := by
  show FP.Core.l2d (lN s) = FP.Core.i2d (nI s)
  unfold FP.Core.l2d FP.Core.i2d
  rw [nI_toInt h, lN_toInt h]
theorem ans_share (R : RQ ma mb n bc sc bu hq f c) (hn : n < 512) : q6_share ma = q8_share mb := by
  obtain ⟨sr, st, tr, tt, mt, z1, z2, z3, z4, z5, z6, z7, z8, z9, z10, z11⟩ := R.2.2.2.2.2.1
  obtain ⟨z, hz, g1, g2⟩ := rq_slime R
  have lq := R.1
  have e6 : q6_shA ma = lN (mt + z + tt) := by
    unfold q6_shA
    rw [z9, g1, z6, nI_l (by omega), nI_l (by omega), nI_l (by omega), lN_add, lN_add]
  have e8 : q8_shA mb = nI (mt + z + tt) := by
    unfold q8_shA
    rw [z10, g2, z8, nI_add, nI_add]
  unfold q6_share q8_share
  rw [e6, e8, z9, z10]
  by_cases c0 : mt + z + tt = 0
  · rw [if_pos ((t_cmp0 (by omega)).mpr c0), if_pos (by rw [c0]; rfl)]
  · rw [if_neg (fun q => c0 ((t_cmp0 (by omega)).mp q)), if_neg (nI_ne0 (by omega) (by omega)), t_i2d (by omega)]
theorem zfold_c {g h : Nat → Int32} {d : Int64} : ∀ k, (∀ j, j < k → g j = h j) → zfold g d k = zfold h d k := by
  intro k
  induction k with
  | zero => intro _; rfl
  | succ k ih => intro hk; rw [zfold, zfold, ih (fun j hj => hk j (by omega)), hk k (by omega)]
theorem ans_stamps {b s : Nat} (hS : tSt ma mb 0 b s) (d : Int64) : ∀ k, k ≤ s → q_jS ma 0 b d k = q8_dS mb b d k := by
  intro k
  induction k with
  | zero => intro _; rfl
  | succ k ih =>
    intro hk
    obtain ⟨p, q, u, x0, x1, x2, x3, x4, x5, -⟩ := hS k (by omega)
    rw [q_jS, q8_dS, ih (by omega), x0, x1, x2, x3, x4, x5]
theorem ans_dB (R : RQ ma mb n bc sc bu hq f c) (d : Int64) : ∀ k, k ≤ bc → q_dB ma sc d k = q8_dB mb sc d k := by
  intro k
  induction k with
  | zero => intro _; rfl
  | succ k ih =>
    intro hk
    obtain ⟨N, hB⟩ := rq_box R (b := k) (by omega)
    rw [q_dB, q8_dB, ih (by omega)]
    unfold q_joinBox
    rw [zfold_c 12 (fun j hj => ans_box R (b := k) (k := j) (by omega) (by omega)), ans_stamps hB.2.2.2.2.2.2.2.2.2.1 _ _ (Nat.le_refl _)]
theorem ans_dL (R : RQ ma mb n bc sc bu hq f c) (d : Int64) : ∀ k, k ≤ c → q_dL ma f d k = zfold (mb (2, 20 + 20 * 0, 90)) d (3 * k) := by
  intro k
  induction k with
  | zero => intro _; rfl
  | succ k ih =>
    intro hk
    rw [q_dL, ih (by omega), zfold_c (h := fun i => mb (2, 20 + 20 * 0, 90) (3 * k + i)) 3 (fun j hj => ans_lot R (j := k) (k := j) (by omega) (by omega))]
    rfl
theorem ans_dU (R : RQ ma mb n bc sc bu hq f c) (d : Int64) : ∀ k, k ≤ 3 → q_dU ma d k = q8_dU mb d k := by
  intro k
  induction k with
  | zero => intro _; rfl
  | succ k ih =>
    intro hk
    rw [q_dU, q8_dU, ih (by omega), zfold_c 3 (fun j hj => ans_bud R (u := k) (k := j) (by omega) (by omega))]
theorem ans_digest (R : RQ ma mb n bc sc bu hq f c) : q_digest ma bc sc f c = q8_digest mb bc c sc := by
  have e1 : q_dg1 ma bc sc f c = q8_dg1 mb bc c sc := zfold_c 14 (fun j hj => ans_count R (k := j) (by omega))
  have e2 : q_dg2 ma bc sc f c = q8_dg2 mb bc c sc := by
    unfold q_dg2 q8_dg2
    rw [e1]
    exact zfold_c 24 (fun j hj => by
      obtain ⟨a, -, h1, h2⟩ := rq_in R hj
      rw [h1, h2])
  have e3 : q_dg3 ma bc sc f c = q8_dg3 mb bc c sc := by
    unfold q_dg3 q8_dg3
    rw [e2]
    exact ans_dB R _ bc (Nat.le_refl _)
  have e4 : q_dg4 ma bc sc f c = q8_dg4 mb bc c sc := by
    unfold q_dg4 q8_dg4
    rw [e3]
    exact ans_dL R _ c (Nat.le_refl _)
  unfold q_digest q8_digest
  rw [e4]
  exact ans_dU R _ 3 (Nat.le_refl _)
/-- behind share, digest -/
theorem RQ_z2 (R : RQ m m n bc sc bu hq f c) : RQ (q8_z m) (q8_z m) (n + 1) bc sc bu hq f c := RQ_up (RQ_fr (RQ_z R) (Nat.le_refl _) (fun k hk => zs_ne (tcl_ne (zt_tcl (w := 0) (by decide) hk) nc12)) (gT_same R.2.2.2.2.2.2 (fun b _ => by unfold q8_z; rw [zs_k (zk rfl)])) (fun _ _ => rfl) rfl (fun _ _ _ => rfl)) (Nat.le_succ n)
end TC3
