/-! looking ahead, side by side -/
theorem zt01 {k : ZN} (h : zt 0 k) : ¬ zt 1 k := by
  intro h2
  rcases h with ⟨h1, -⟩ | h1
  · rcases h2 with ⟨h3, -⟩ | h3
    · omega
    · rw [h3] at h1
      exact absurd h1 (by decide)
  · rw [h1] at h2
    rcases h2 with ⟨h3, -⟩ | h3
    · exact absurd h3 (by decide)
    · injection h3 with _ h4
      injection h4 with h5
      exact absurd h5 (by decide)
theorem zah_tms {k : ZN} (h : tms 0 k) : zah k := by
  rcases h with h | ⟨h1, h2, h3⟩
  · rw [h]
    exact zah_k (zk rfl) (by decide)
  · refine ⟨fun e => by rw [e] at h1; exact absurd h1 (by decide), fun a len ha e => ?_⟩
    rw [e] at h3
    have h3 : a + 20 * 1 < 30 + 20 * 0 := h3
    simp only [q_cpl, List.mem_cons, Prod.mk.injEq, List.not_mem_nil, or_false] at ha
    omega
theorem zah_60 : zah (2, 60, 2) := ⟨by decide, fun a len ha e => by
  injection e with _ e2
  injection e2 with e3
  simp only [q_cpl, List.mem_cons, Prod.mk.injEq, List.not_mem_nil, or_false] at ha
  omega⟩
section TV
variable {ma mb : ZM} {n bc hq f c : Nat} {sc bu : Nat → Nat}
set_option maxHeartbeats 2000000 in
theorem rS_copy (R : RQ ma mb n bc sc bu hq f c) {A B : ZM} (eA : A = q_copyWorks ma 1 0 bc sc f c) (eB : B = q_become7 mb 1 0) : (∀ b, b < bc → zsc A b = sc b ∧ zbu A b = bu b) ∧ rS A B 1 bc (zsc A) (zbu A) hq := by
  have cw : ∀ k b j, zcS bc sc f c k b j → A (k, 1, b) j = ma (k, 0, b) j := fun k b j h => by rw [eA]; exact zC_works.2.2 k b j h
  have c1 : ∀ j, 6 ≤ j → j ≤ 10 → A (1, 1, 0) j = ma (1, 0, 0) j := fun j h1 h2 => cw 1 0 j (Or.inl ⟨rfl, rfl, h1, h2⟩)
  have c2 : ∀ j, j < 24 → A (2, 1, 24) j = ma (2, 0, 24) j := fun j h => cw 2 24 j (Or.inr (Or.inr (Or.inr (Or.inr (Or.inr (Or.inr (Or.inr ⟨rfl, rfl, h⟩)))))))
  have c4 : ∀ b j, b < bc → 4 ≤ j → j ≤ 8 → A (4, 1, b) j = ma (4, 0, b) j := fun b j h1 h2 h3 => cw 4 b j (Or.inr (Or.inr (Or.inr (Or.inr (Or.inl ⟨rfl, h1, h2, h3⟩)))))
  have c6 : ∀ b k j, b < bc → k < sc b → j < 3 → A (6, 1, 4 * b + k) j = ma (6, 0, 4 * b + k) j := fun b k j h1 h2 h3 => cw 6 (4 * b + k) j (Or.inr (Or.inr (Or.inr (Or.inr (Or.inr (Or.inl ⟨rfl, ⟨b, h1, by omega, by omega⟩, h3⟩))))))
  have c7 : ∀ o j, o < 3 * bc → j < 2 → A (7, 1, o) j = ma (7, 0, o) j := fun o j h1 h2 => cw 7 o j (Or.inr (Or.inr (Or.inr (Or.inr (Or.inr (Or.inr (Or.inl ⟨rfl, h1, h2⟩)))))))
  have c7b : ∀ u j, u < 3 → j < 2 → A (7, 1, 42 + u) j = ma (7, 0, 42 + u) j := fun u j h1 h2 => cw 7 (42 + u) j (Or.inr (Or.inl ⟨rfl, by omega, by omega, h2⟩))
  have c7l : ∀ i j, i < c → j < 2 → A (7, 1, 12 + (f + i) % 30) j = ma (7, 0, 12 + (f + i) % 30) j := fun i j h1 h2 => cw 7 _ j (Or.inr (Or.inr (Or.inl ⟨i, h1, Or.inl ⟨rfl, rfl, h2⟩⟩)))
  have c10 : ∀ i, i < c → A (10, 1, (f + i) % 30) 1 = ma (10, 0, (f + i) % 30) 1 := fun i h1 => cw 10 _ 1 (Or.inr (Or.inr (Or.inl ⟨i, h1, Or.inr ⟨rfl, rfl, rfl⟩⟩)))
  have c8 : ∀ j, 1 ≤ j → j ≤ 2 → A (8, 1, 0) j = ma (8, 0, 0) j := fun j h1 h2 => cw 8 0 j (Or.inr (Or.inr (Or.inr (Or.inl ⟨rfl, rfl, h1, h2⟩))))
  have b13 : ∀ j, (j = 0 ∨ j = 1 ∨ j = 2 ∨ j = 4 ∨ j = 14 ∨ j = 17) → B (13, 1, 0) j = mb (13, 0, 0) j := fun j h => by rw [eB]; exact q_become7_13 h
  have b2 : ∀ a len j, (a, len) ∈ q_cpl → j < len → B (2, a + 20 * 1, len) j = mb (2, a + 20 * 0, len) j := fun a len j h1 h2 => by rw [eB]; exact q_become7_2 h1 h2
  obtain ⟨q1, ⟨r1, r2, r3, r4, r5, ⟨P, p1, p2, p3⟩, ⟨s, s1, s2, s3⟩, r8, r9, -, z, N, r11, r12, r13, r14⟩, q3, q4, q5, q6, q7⟩ := R
  have hz : ∀ b, b < bc → zsc A b = sc b ∧ zbu A b = bu b := fun b hb => by
    obtain ⟨g1, g2, g3, g4, g5, g6, -⟩ := r13 b hb
    unfold zsc zbu
    rw [c4 b 4 hb (by decide) (by decide), c4 b 6 hb (by decide) (by decide), g1, g4]
    exact ⟨nI_clamp (by omega), nI_clamp (by omega)⟩
  refine ⟨hz, by rw [c1 _ (by decide) (by decide)]; exact r1, by rw [b13 _ (by decide)]; exact r2, r3, by rw [c1 _ (by decide) (by decide)]; exact r4, by rw [b13 _ (by decide)]; exact r5, ⟨P, p1, by rw [c1 _ (by decide) (by decide)]; exact p2, by rw [b13 _ (by decide)]; exact p3⟩, ⟨s, s1, by rw [c1 _ (by decide) (by decide)]; exact s2, by rw [b13 _ (by decide)]; exact s3⟩, fun h hh => ?_, fun u hu => ?_, ⟨f, c, ?_⟩, z, N, by rw [c1 _ (by decide) (by decide)]; exact r11, by rw [b13 _ (by decide)]; exact r12, fun b hb => ?_, r14⟩
  · rw [c2 h hh, b2 10 24 h (by decide) hh]; exact r8 h hh
  · obtain ⟨r, t, u1, u2, u3, u4, u5⟩ := r9 u hu
    exact ⟨r, t, u1, by rw [c7b u 0 hu (by decide)]; exact u2, by rw [c7b u 1 hu (by decide)]; exact u3, by rw [b2 21 6 _ (by decide) (by omega)]; exact u4, by rw [b2 21 6 _ (by decide) (by omega)]; exact u5⟩
  · obtain ⟨k1, k2, k3, k4, k5, k6⟩ := q3
    refine ⟨by rw [c8 _ (by decide) (by decide)]; exact k1, k2, by rw [c8 _ (by decide) (by decide)]; exact k3, by rw [b13 _ (by decide)]; exact k4, k5, fun j hj => ?_⟩
    obtain ⟨r, t, h, x0, x1, x2, x3, x4, x5, x6⟩ := k6 j hj
    exact ⟨r, t, h, by rw [c7l j 0 hj (by decide)]; exact x0, by rw [c7l j 1 hj (by decide)]; exact x1, by rw [c10 j hj]; exact x2, by rw [b2 20 90 _ (by decide) (by omega)]; exact x3, by rw [b2 20 90 _ (by decide) (by omega)]; exact x4, by rw [b2 20 90 _ (by decide) (by omega)]; exact x5, x6⟩
  · obtain ⟨e1, e2⟩ := hz b hb
    rw [e1, e2]
    obtain ⟨g1, g2, g3, g4, g5, g6, ⟨Fd, d1, d2, d3⟩, ⟨h, h1, h2, h3, h4⟩, ⟨Fo, o1, o2, o3⟩, hS, lr, lt, gr, gt, sr, st, ⟨⟨x0, x1, x2, x3⟩, ⟨y0, y1, y2, y3⟩, w0, w1, w2, w3⟩, hs⟩ := r13 b hb
    refine ⟨by rw [c4 b _ hb (by decide) (by decide)]; exact g1, by rw [b2 11 4 _ (by decide) (by omega)]; exact g2, g3, by rw [c4 b _ hb (by decide) (by decide)]; exact g4, by rw [b2 16 4 _ (by decide) (by omega)]; exact g5, g6, ⟨Fd, d1, by rw [c4 b _ hb (by decide) (by decide)]; exact d2, by rw [b2 15 4 _ (by decide) (by omega)]; exact d3⟩, ⟨h, h1, h2, by rw [c4 b _ hb (by decide) (by decide)]; exact h3, by rw [b2 17 4 _ (by decide) (by omega)]; exact h4⟩, ⟨Fo, o1, by rw [c4 b _ hb (by decide) (by decide)]; exact o2, by rw [b2 18 4 _ (by decide) (by omega)]; exact o3⟩, fun k hk => ?_, lr, lt, gr, gt, sr, st, ⟨⟨?_, ?_, ?_, ?_⟩, ⟨?_, ?_, ?_, ?_⟩, ?_, ?_, ?_, ?_⟩, hs⟩
    · obtain ⟨p, q, u, v0, v1, v2, v3, v4, v5, v6⟩ := hS k hk
      exact ⟨p, q, u, by rw [c6 b k 0 hb hk (by decide)]; exact v0, by rw [c6 b k 1 hb hk (by decide)]; exact v1, by rw [c6 b k 2 hb hk (by decide)]; exact v2, by rw [b2 12 16 _ (by decide) (by omega)]; exact v3, by rw [b2 13 16 _ (by decide) (by omega)]; exact v4, by rw [b2 14 16 _ (by decide) (by omega)]; exact v5, v6⟩
    · rw [c7 _ _ (by omega) (by decide)]; exact x0
    · rw [c7 _ _ (by omega) (by decide)]; exact x1
    · rw [b2 19 24 _ (by decide) (by omega)]; exact x2
    · rw [b2 19 24 _ (by decide) (by omega)]; exact x3
    · rw [c7 _ _ (by omega) (by decide)]; exact y0
    · rw [c7 _ _ (by omega) (by decide)]; exact y1
    · rw [b2 19 24 _ (by decide) (by omega)]; exact y2
    · rw [b2 19 24 _ (by decide) (by omega)]; exact y3
    · rw [c7 _ _ (by omega) (by decide)]; exact w0
    · rw [c7 _ _ (by omega) (by decide)]; exact w1
    · rw [b2 19 24 _ (by decide) (by omega)]; exact w2
    · rw [b2 19 24 _ (by decide) (by omega)]; exact w3
/-- hours ahead: what they tell, and that the works themselves stay -/
theorem RQ_ahead (R : RQ ma mb n bc sc bu hq f c) {A B : ZM} {k : Nat} (hk : hq + k ≤ 5000) (hz : ∀ b, b < bc → zsc A b = sc b ∧ zbu A b = bu b) (S : rS A B 1 bc (zsc A) (zbu A) hq) (G : gW A 1 bc (zsc A) (zbu A) hq) (fA : zfr 1 ma A) (fB : ∀ k, zah k → B k = mb k) :
    RQ (q_passM A 1 bc (zsc A) (zbu A) hq k) (q_runM7 B 1 bc sc bu hq k) n bc sc bu hq f c ∧ rS (q_passM A 1 bc (zsc A) (zbu A) hq k) (q_runM7 B 1 bc sc bu hq k) 1 bc (zsc A) (zbu A) (hq + k) ∧ q_passT A 1 bc (zsc A) (zbu A) hq k = q_runT7 B 1 bc sc bu hq k ∧ zfr 1 ma (q_passM A 1 bc (zsc A) (zbu A) hq k) ∧ (∀ k0, zah k0 → q_runM7 B 1 bc sc bu hq k k0 = mb k0) := by
  obtain ⟨h1, h2, -⟩ := t_pass (sc' := sc) (go := bu) S (fun b hb => ⟨(hz b hb).1.symm, (hz b hb).2.symm⟩) k hk
  have f1 : zfr 1 ma (q_passM A 1 bc (zsc A) (zbu A) hq k) := zf_pass fA
  have f2 : ∀ k0, zah k0 → q_runM7 B 1 bc sc bu hq k k0 = mb k0 := fun k0 h0 => by rw [q_runM7_o h0, fB k0 h0]
  refine ⟨RQ_fr R (Nat.le_refl _) (fun k0 h0 => f1 k0 (zt01 h0)) (gT_of (gW_pass G (by omega))) (fun k0 h0 => f2 k0 (zah_tms h0)) (f2 _ zah_60) (fun j _ _ => by rw [f2 _ (zah_k (zk rfl) (by decide))]), h1, h2, f1, f2⟩
theorem ans_buds {w hq : Nat} {sc bu : Nat → Nat} (S : rS ma mb w bc sc bu hq) : q_tinBuds ma w 3 = q_tinBud7 mb w := by
  obtain ⟨r0, t0, -, -, x0, -, y0⟩ := S.2.2.2.2.2.2.2.2.1 0 (by decide)
  obtain ⟨r1, t1, -, -, x1, -, y1⟩ := S.2.2.2.2.2.2.2.2.1 1 (by decide)
  obtain ⟨r2, t2, -, -, x2, -, y2⟩ := S.2.2.2.2.2.2.2.2.1 2 (by decide)
  have e : q_tinBuds ma w 3 = 0 + ma (7, w, 42 + 0) 1 + ma (7, w, 42 + 1) 1 + ma (7, w, 42 + 2) 1 := rfl
  have y0 : mb (2, 21 + 20 * w, 6) 1 = nI t0 := y0
  have y1 : mb (2, 21 + 20 * w, 6) 3 = nI t1 := y1
  have y2 : mb (2, 21 + 20 * w, 6) 5 = nI t2 := y2
  unfold q_tinBud7
  rw [e, x0, x1, x2, y0, y1, y2, Int32.zero_add]
theorem rS_sl {A B : ZM} {s : Nat} (S : rS A B 1 bc (zsc A) (zbu A) hq) (hs : s ≤ 20) {A1 B1 : ZM} (eA : A1 = zs A (1, 1, 0) 8 (nI s)) (eB : B1 = zs B (13, 1, 0) 2 (nI s)) : rS A1 B1 1 bc (zsc A1) (zbu A1) hq := by
  have k4 : ∀ b, A1 (4, 1, b) = A (4, 1, b) := fun b => by rw [eA, zs_k (zk rfl)]
  have e1 : zsc A1 = zsc A := by
    funext b
    unfold zsc
    rw [k4]
  have e2 : zbu A1 = zbu A := by
    funext b
    unfold zbu
    rw [k4]
  have a1 : ∀ j, j ≠ 8 → A1 (1, 1, 0) j = A (1, 1, 0) j := fun j hj => by rw [eA, zs_ej hj]
  have ak : ∀ k : ZN, k.1 ≠ 1 → A1 k = A k := fun k hk => by rw [eA, zs_k hk]
  have b13 : ∀ j, j ≠ 2 → B1 (13, 1, 0) j = B (13, 1, 0) j := fun j hj => by rw [eB, zs_ej hj]
  have bk : ∀ k : ZN, k.1 ≠ 13 → B1 k = B k := fun k hk => by rw [eB, zs_k hk]
  rw [e1, e2]
  obtain ⟨r1, r2, r3, r4, r5, r6, r7, r8, r9, ⟨f, c, r10⟩, z, N, r11, r12, r13, r14⟩ := S
  refine ⟨by rw [a1 _ (by decide)]; exact r1, by rw [b13 _ (by decide)]; exact r2, r3, by rw [a1 _ (by decide)]; exact r4, by rw [b13 _ (by decide)]; exact r5, by rw [a1 _ (by decide), b13 _ (by decide)]; exact r6, ⟨s, hs, by rw [eA, zs_eq rfl], by rw [eB, zs_eq rfl]⟩, by rw [ak _ (zk rfl), bk _ (zk rfl)]; exact r8, fun u hu => tU_same (r9 u hu) (ak _ (zk rfl)) (by rw [bk _ (zk rfl)]) (by rw [bk _ (zk rfl)]), ⟨f, c, tL_same r10 (ak _ (zk rfl)) (fun _ _ _ => ak _ (zk rfl)) (fun _ => ak _ (zk rfl)) (b13 _ (by decide)) (bk _ (zk rfl))⟩, z, N, by rw [a1 _ (by decide)]; exact r11, by rw [b13 _ (by decide)]; exact r12, fun b hb => ?_, r14⟩
  exact tB_same (r13 b hb) (ak _ (zk rfl)) (fun _ _ _ => ak _ (zk rfl)) (fun _ _ _ => ak _ (zk rfl)) (by rw [bk _ (zk rfl)]) (by rw [bk _ (zk rfl)]) (by rw [bk _ (zk rfl)]) (by rw [bk _ (zk rfl)]) (by rw [bk _ (zk rfl)]) (fun _ _ _ => by rw [bk _ (zk rfl)]) (fun _ _ _ => by rw [bk _ (zk rfl)]) (fun _ _ _ => by rw [bk _ (zk rfl)]) (fun _ _ _ => by rw [bk _ (zk rfl)])
/-- the sluices that are tried -/
theorem RQ_adv (R : RQ ma mb n bc sc bu hq f c) {N : Nat} (hN : hq + N ≤ 5000) : ∀ k, k ≤ 21 → RQ (q6_advS ma bc sc hq f c N k).1 (q8_advS mb bc sc bu hq N k).1 n bc sc bu hq f c ∧ zfr 1 ma (q6_advS ma bc sc hq f c N k).1 ∧ (∀ k0, zah k0 → (q8_advS mb bc sc bu hq N k).1 k0 = mb k0) ∧ (q6_advS ma bc sc hq f c N k).2 = (q8_advS mb bc sc bu hq N k).2 := by
  intro k
  induction k with
  | zero => intro _; exact ⟨R, zf_rf, fun _ _ => rfl, rfl⟩
  | succ k ih =>
    intro hk
    obtain ⟨i1, i2, i3, i4⟩ := ih (by omega)
    obtain ⟨A, eA⟩ : ∃ A, A = q_copyWorks (q6_advS ma bc sc hq f c N k).1 1 0 bc sc f c := ⟨_, rfl⟩
    obtain ⟨B, eB⟩ : ∃ B, B = q_become7 (q8_advS mb bc sc bu hq N k).1 1 0 := ⟨_, rfl⟩
    obtain ⟨hz, S⟩ := rS_copy i1 eA eB
    obtain ⟨A1, eA1⟩ : ∃ A1, A1 = zs A (1, 1, 0) 8 (nI k) := ⟨_, rfl⟩
    obtain ⟨B1, eB1⟩ : ∃ B1, B1 = zs B (13, 1, 0) 2 (nI k) := ⟨_, rfl⟩
    have S1 := rS_sl S (by omega) eA1 eB1
    have G : gW A 1 bc (zsc A) (zbu A) hq := by rw [eA]; exact gW_copy (RQ_gW i1) i1.2.2.2.2.2.2 i1.2.2.1.1 i1.2.2.1.2.1
    have G1 : gW A1 1 bc (zsc A1) (zbu A1) hq := by rw [eA1]; exact gW_sl6 G
    have fA : zfr 1 (q6_advS ma bc sc hq f c N k).1 A1 := by rw [eA1, eA]; exact zf_s zC_works.1 zt_1
    have fB : ∀ k0, zah k0 → B1 k0 = (q8_advS mb bc sc bu hq N k).1 k0 := fun k0 h0 => by rw [eB1, zs_ne h0.1, eB, q_become7_o h0]
    have hz1 : ∀ b, b < bc → zsc A1 b = sc b ∧ zbu A1 b = bu b := fun b hb => by
      have := hz b hb
      unfold zsc zbu at this ⊢
      rw [eA1, zs_k (zk rfl)]
      exact this
    obtain ⟨h1, h2, -, h4, h5⟩ := RQ_ahead i1 (k := N) hN hz1 S1 G1 fA fB
    have hb := ans_buds h2
    obtain ⟨MA, eMA⟩ : ∃ M, M = q_passM A1 1 bc (zsc A1) (zbu A1) hq N := ⟨_, rfl⟩
    obtain ⟨MB, eMB⟩ : ∃ M, M = q_runM7 B1 1 bc sc bu hq N := ⟨_, rfl⟩
    have u6 : q6_advM (q6_advS ma bc sc hq f c N k).1 bc sc hq f c N k = MA := by
      unfold q6_advM
      rw [← eA, ← eA1, eMA]
    have u8 : q8_advM (q8_advS mb bc sc bu hq N k).1 bc sc bu hq N k = MB := by
      unfold q8_advM
      rw [← eB, ← eB1, eMB]
    rw [← eMA, ← eMB] at h1 hb
    rw [← eMA] at h4
    rw [← eMB] at h5
    rw [q6_advS, q8_advS, u6, u8, ← i4, hb]
    by_cases cc : q_tinBud7 MB 1 ≤ (q6_advS ma bc sc hq f c N k).2.2
    · rw [if_pos cc, if_neg (t_len cc)]
      exact ⟨h1, zf_tr i2 h4, fun k0 h0 => (h5 k0 h0).trans (i3 k0 h0), rfl⟩
    · rw [if_neg cc, if_pos (t_nle cc)]
      exact ⟨h1, zf_tr i2 h4, fun k0 h0 => (h5 k0 h0).trans (i3 k0 h0), rfl⟩
/-- the waters that are tried -/
theorem ans_water (R : RQ ma mb n bc sc bu hq f c) {u : Nat} (hu : u < 3) (x : Int32) : ∀ k, k ≤ 81 → q6_bwS ma (42 + u) x k = q8_bwS mb u x k := by
  obtain ⟨br, bt, u1, u2, u3, u4, u5⟩ := rq_bud R hu
  intro k
  induction k with
  | zero => intro _; rfl
  | succ k ih =>
    intro hk
    have e1 : q_tinOfHead (ma (7, 0, 42 + u) 1) (nI (10 + k)) = nI (bt * (100 - (10 + k) / 3) / 100) := by rw [u3]; exact (t_hd2 (by omega) (by omega)).1
    have e2 : q_rockOfHead (ma (7, 0, 42 + u) 0) (nI (10 + k)) = nI (br * ((100 - (10 + k)) / 4) / 100) := by rw [u2]; exact (t_hd2 (by omega) (by omega)).2
    have e3 : q8_headTin mb u (nI (10 + k)) = nI (bt * (100 - (10 + k) / 3) / 100) := by
      show q_tinOfHead (mb (2, 21 + 20 * 0, 6) (2 * u + 1)) (nI (10 + k)) = _
      rw [u5]; exact (t_hd2 (by omega) (by omega)).1
    have e4 : q8_headRock mb u (nI (10 + k)) = nI (br * ((100 - (10 + k)) / 4) / 100) := by
      show q_rockOfHead (mb (2, 21 + 20 * 0, 6) (2 * u)) (nI (10 + k)) = _
      rw [u4]; exact (t_hd2 (by omega) (by omega)).2
    have l1 : bt * (100 - (10 + k) / 3) / 100 ≤ bt := (t_hd100 (by omega) (by omega)).2
    have l2 : br * ((100 - (10 + k)) / 4) / 100 ≤ br := (t_hd100 (by omega) (by omega)).2
    have eG : q6_bwG ma (42 + u) (10 + k) = q8_own mb u (10 + k) := by
      unfold q6_bwG q8_own
      rw [e1, e2, e3, e4, (t_grade (by omega)).1, (t_grade (by omega)).2]
    rw [q6_bwS, q8_bwS, ih (by omega), e1, e3, eG]
    by_cases c1 : nI (bt * (100 - (10 + k) / 3) / 100) < x
    · rw [if_pos c1, if_pos c1]
    · rw [if_neg c1, if_neg c1]
      by_cases c2 : q8_own mb u (10 + k) ≤ (q8_bwS mb u x k).2
      · rw [if_pos c2, if_neg (t_len c2)]
      · rw [if_neg c2, if_pos (t_nle c2)]
end TV
