/-! hours, side by side -/
def nsum (N : Nat → Nat) : Nat → Nat
  | 0 => 0
  | n + 1 => nsum N n + N n
theorem nsum_c {N N' : Nat → Nat} {n : Nat} (h : ∀ d, d < n → N' d = N d) : nsum N' n = nsum N n := by
  induction n with
  | zero => rfl
  | succ n ih => rw [nsum, nsum, ih (fun d hd => h d (by omega)), h n (by omega)]
theorem nsum_le {N : Nat → Nat} {n b : Nat} (h : b < n) : N b ≤ nsum N n := by
  induction n with
  | zero => omega
  | succ n ih =>
    rw [nsum]
    by_cases e : b = n
    · subst e; omega
    · have := ih (by omega)
      omega
theorem nsum_up {N : Nat → Nat} {n b x : Nat} (h : b < n) : nsum (fun d => if d = b then x else N d) n + N b = nsum N n + x := by
  induction n with
  | zero => omega
  | succ n ih =>
    rw [nsum, nsum]
    by_cases e : b = n
    · subst e
      rw [if_pos rfl, nsum_c (N := N) (N' := fun d => if d = b then x else N d) (fun d hd => if_neg (by omega))]
      omega
    · have := ih (by omega)
      rw [if_neg (fun q => e q.symm)]
      omega
def rS (ma mb : ZM) (w bc : Nat) (sc bu : Nat → Nat) (hq : Nat) : Prop :=
  ma (1, w, 0) 9 = nI bc ∧ mb (13, w, 0) 4 = nI bc ∧ bc ≤ 4 ∧ ma (1, w, 0) 6 = nI hq ∧ mb (13, w, 0) 0 = nI hq ∧ (∃ P, P ≤ 20000 ∧ ma (1, w, 0) 7 = nI P ∧ mb (13, w, 0) 1 = nI P) ∧ (∃ s, s ≤ 20 ∧ ma (1, w, 0) 8 = nI s ∧ mb (13, w, 0) 2 = nI s) ∧
  (∀ h, h < 24 → ∃ a, a ≤ 900 ∧ ma (2, w, 24) h = nI a ∧ mb (2, 10 + 20 * w, 24) h = nI a) ∧ (∀ u, u < 3 → tU ma mb w u) ∧ (∃ f c, tL ma mb w f c) ∧ ∃ z N, ma (1, w, 0) 10 = nI z ∧ mb (13, w, 0) 17 = nI z ∧ (∀ b, b < bc → tB ma mb w b (sc b) (bu b) (N b)) ∧ z + nsum N bc ≤ 1200 * hq
theorem t_load1 {p q : Nat} (hp : p ≤ 60) (hq : q ≤ 4) : nI p * nI q / 4 = nI (p * q / 4) ∧ p * q / 4 ≤ 60 := by
  have h1 : p * q ≤ 60 * 4 := Nat.mul_le_mul hp hq
  generalize hx : p * q = X at h1 ⊢
  refine ⟨?_, by omega⟩
  rw [pk_mul, hx]
  exact pk_div (d := 4) (by omega) (by decide) (by decide)
theorem t_loads {ma mb : ZM} {w b sc : Nat} (hS : tSt ma mb w b sc) : ∀ n, n ≤ sc → ∃ k, k ≤ 60 * n ∧ q_loads ma w b n = nI k ∧ q_row7 mb w b n = nI k := by
  intro n
  induction n with
  | zero => intro _; exact ⟨0, by omega, nI_0.symm, nI_0.symm⟩
  | succ n ih =>
    intro hn
    obtain ⟨k, f1, f2, f3⟩ := ih (by omega)
    obtain ⟨p, q, u, x0, x1, x2, y0, y1, y2, g0, g1, g2⟩ := hS n (by omega)
    obtain ⟨k1, k2⟩ := t_load1 g0 g1
    refine ⟨k + p * q / 4, by omega, ?_, ?_⟩
    · show q_loads ma w b n + q_load1 ma (6, w, 4 * b + n) = _
      unfold q_load1
      rw [f2, x0, x1, k1, nI_add]
    · show q_row7 mb w b n + mb (2, 12 + 20 * w, 16) (4 * b + n) * mb (2, 13 + 20 * w, 16) (4 * b + n) / 4 = _
      rw [f3, y0, y1, k1, nI_add]
theorem t_load {ma mb : ZM} {w bc : Nat} {sc bu sc' N : Nat → Nat} (hB : ∀ b, b < bc → tB ma mb w b (sc b) (bu b) (N b)) (hs : ∀ b, b < bc → sc' b = sc b) : ∀ n, n ≤ bc → ∃ k, 20 ≤ k ∧ k ≤ 20 + 240 * n ∧ q_loadW ma w sc n = nI k ∧ q_load7 mb w sc' n = nI k := by
  intro n
  induction n with
  | zero => intro _; exact ⟨20, by omega, by omega, rfl, rfl⟩
  | succ n ih =>
    intro hn
    obtain ⟨k, f0, f1, f2, f3⟩ := ih (by omega)
    have h := hB n (by omega)
    obtain ⟨j, g1, g2, g3⟩ := t_loads h.2.2.2.2.2.2.2.2.2.1 (sc n) (Nat.le_refl _)
    have h4 := h.2.2.1
    refine ⟨k + j, by omega, by omega, ?_, ?_⟩
    · rw [q_loadW, f2, g2, nI_add]
    · rw [q_load7, hs n (by omega), f3, g3, nI_add]
theorem q_work_k {m : ZM} {w b cn ub : Nat} {x t : Int32} {k : ZN} (h1 : k.1 ≠ 1) (h4 : k.1 ≠ 4) (h6 : k.1 ≠ 6) (h7 : k.1 ≠ 7) (h8 : k.1 ≠ 8) : q_work m w b cn ub x t k = m k := by
  unfold q_work q_grate q_slimeM
  rw [q_wearS_k h6, q_move_k h7 h7, zs_k h1, zs_k h7, q_blow_k h7 h4, zs_k h4, q_feed_k rfl h7 h8]
theorem q_boxes_k {m : ZM} {w n : Nat} {sc bu : Nat → Nat} {x t : Int32} {k : ZN} (h1 : k.1 ≠ 1) (h4 : k.1 ≠ 4) (h6 : k.1 ≠ 6) (h7 : k.1 ≠ 7) (h8 : k.1 ≠ 8) : q_boxes m w sc bu x t n k = m k := by
  induction n with
  | zero => rfl
  | succ n ih => rw [q_boxes, q_work_k h1 h4 h6 h7 h8, ih]
theorem q_boxes_1 {m : ZM} {w n j : Nat} {sc bu : Nat → Nat} {x t : Int32} (h : j ≠ 10) : q_boxes m w sc bu x t n (1, w, 0) j = m (1, w, 0) j := by
  induction n with
  | zero => rfl
  | succ n ih => rw [q_boxes, q_work_1 h, ih]
theorem q_box7_13 {m : ZM} {w b cn g j : Nat} {x t : Int32} (h : j ≠ 14) (h2 : j ≠ 17) : q_box7 m w b cn g x t (13, w, 0) j = m (13, w, 0) j := by
  have e : ∀ a len, ((13, w, 0) : ZN) ≠ (2, a, len) := fun a len e => by injection e with e1; exact absurd e1 (by decide)
  unfold q_box7
  rw [q_wear7_ne (e _ _), q_mv_k (zk rfl) (zk rfl), zs_ej h2, zs_k (zk rfl), q_blow7_ne (e _ _) (e _ _), q_eat_13 h]
theorem q_boxes7_13 {m : ZM} {w n j : Nat} {sc go : Nat → Nat} {x t : Int32} (h : j ≠ 14) (h2 : j ≠ 17) : q_boxes7 m w sc go x t n (13, w, 0) j = m (13, w, 0) j := by
  induction n with
  | zero => rfl
  | succ n ih => rw [q_boxes7, q_box7_13 h h2, ih]
theorem q_boxes7_10 {m : ZM} {w n : Nat} {sc go : Nat → Nat} {x t : Int32} : q_boxes7 m w sc go x t n (2, 10 + 20 * w, 24) = m (2, 10 + 20 * w, 24) := by
  induction n with
  | zero => rfl
  | succ n ih => rw [q_boxes7, q_box7_ne (z2_ne (by omega)) (z2_ne (by omega)) (z2_ne (by omega)) (z2_ne (by omega)) (zk rfl), q_eat_ne (z2_ne (by omega)) (z2_ne (by omega)) (z2_ne (by omega)) (zk rfl), ih]
theorem t_boxes {ma mb : ZM} {w bc hq W t : Nat} {sc bu sc' go : Nat → Nat} (ht : t ≤ 400) (hW : W ≤ 800) (hbc : bc ≤ 4) (hh : hq ≤ 5000) (hs : ∀ b, b < bc → sc' b = sc b ∧ go b = bu b) (hU : ∀ u, u < 3 → tU ma mb w u) (hL : ∃ f c, tL ma mb w f c)
    (hR : ∃ z N, ma (1, w, 0) 10 = nI z ∧ mb (13, w, 0) 17 = nI z ∧ (∀ b, b < bc → tB ma mb w b (sc b) (bu b) (N b)) ∧ z + nsum N bc ≤ 1200 * hq) : ∀ k, k ≤ bc →
    (∀ u, u < 3 → tU (q_boxes ma w sc bu (nI W) (nI t) k) (q_boxes7 mb w sc' go (nI W) (nI t) k) w u) ∧ (∃ f c, tL (q_boxes ma w sc bu (nI W) (nI t) k) (q_boxes7 mb w sc' go (nI W) (nI t) k) w f c) ∧
    ∃ z N, q_boxes ma w sc bu (nI W) (nI t) k (1, w, 0) 10 = nI z ∧ q_boxes7 mb w sc' go (nI W) (nI t) k (13, w, 0) 17 = nI z ∧ (∀ b, b < bc → tB (q_boxes ma w sc bu (nI W) (nI t) k) (q_boxes7 mb w sc' go (nI W) (nI t) k) w b (sc b) (bu b) (N b)) ∧ z + nsum N bc ≤ 1200 * hq + 300 * k ∧ (∀ o, (3 * bc ≤ o ∧ o < 12 ∨ 45 ≤ o) → q_boxes ma w sc bu (nI W) (nI t) k (7, w, o) = ma (7, w, o)) := by
  intro k
  induction k with
  | zero => intro _; obtain ⟨z, N, h1, h2, h3, h4⟩ := hR; exact ⟨hU, hL, z, N, h1, h2, h3, by omega, fun _ _ => rfl⟩
  | succ k ih =>
    intro hk
    obtain ⟨iU, ⟨f, c, iL⟩, z, N, i1, i2, iB, i3, i4⟩ := ih (by omega)
    obtain ⟨e1, e2⟩ := hs k (by omega)
    have hN := nsum_le (N := N) (n := bc) (b := k) (by omega)
    have hB := iB k (by omega)
    have hbu : bu k < 3 := hB.2.2.2.2.2.1
    obtain ⟨f', c', z', N', g1, g2, g3, g4, g5, g6, g7, g8, g9⟩ := t_work (b := k) (by omega) ht hW iL hB (iU _ hbu) i1 i2 (by omega) rfl rfl
    rw [q_boxes, q_boxes7, e1, e2]
    refine ⟨fun u hu => ?_, ⟨f', c', g1⟩, z', fun d => if d = k then N' else N d, g4, g5, fun b hb => ?_, ?_, fun o ho => ?_⟩
    · by_cases e : u = bu k
      · rw [e]; exact g3
      · exact g8 u hu e (iU u hu)
    · by_cases e : b = k
      · subst e
        show tB _ _ _ _ _ _ (if b = b then N' else N b)
        rw [if_pos rfl]
        exact g2
      · show tB _ _ _ _ _ _ (if b = k then N' else N b)
        rw [if_neg e]
        exact g7 b _ _ _ (by omega) e (iB b hb)
    · have := nsum_up (N := N) (n := bc) (b := k) (x := N') (by omega)
      omega
    · rw [g9 o (by omega) (by omega) (by omega) (by omega) (by omega), i4 o ho]
set_option maxHeartbeats 4000000 in
theorem t_hour {ma mb : ZM} {w bc hq : Nat} {sc bu sc' go : Nat → Nat} (R : rS ma mb w bc sc bu hq) (hs : ∀ b, b < bc → sc' b = sc b ∧ go b = bu b) (hh : hq < 5000) :
    rS (q_hourM ma w bc sc bu hq) (q_pass7 mb w bc sc' go hq) w bc sc bu (hq + 1) ∧ (∃ T, T ≤ 400 ∧ q_hourT ma w sc bc hq = nI T ∧ q_turns7 mb w bc sc' hq = nI T) ∧ (∀ o, (3 * bc ≤ o ∧ o < 12 ∨ 45 ≤ o) → q_hourM ma w bc sc bu hq (7, w, o) = ma (7, w, o)) := by
  obtain ⟨r1, r2, r3, r4, r5, ⟨P, p1, p2, p3⟩, ⟨s, s1, s2, s3⟩, r6, r7, ⟨f, c, r8⟩, z, N, r9, r10, r11, r12⟩ := R
  obtain ⟨a, a1, a2, a3⟩ := r6 (hq % 24) (Nat.mod_lt _ (by decide))
  obtain ⟨HH, eH⟩ : ∃ x, x = min 20000 (P + a) := ⟨_, rfl⟩
  obtain ⟨W, eW⟩ : ∃ x, x = min HH (s * 40) := ⟨_, rfl⟩
  have e1 : q_held ma w hq = nI HH := by
    unfold q_held
    rw [p2, a2, nI_add, eH]
    exact t_min (a := 20000) (by decide) (by omega)
  have e40 : nI s * 40 = nI (s * 40) := pk_mul s 40
  have e2 : q_taken ma w hq = nI W := by
    unfold q_taken
    rw [e1, s2, e40, eW, t_min (by omega) (by omega)]
  obtain ⟨m0, em0⟩ : ∃ m0, m0 = q_takeM ma w hq := ⟨_, rfl⟩
  have m0e : m0 = zs ma (1, w, 0) 7 (nI (HH - W)) := by
    rw [em0]
    unfold q_takeM
    rw [e1, e2, pk_sub (by omega)]
  have f1 : q_pond7 mb w hq = zs mb (13, w, 0) 1 (nI HH) := by
    unfold q_pond7
    rw [p3, a3, nI_add, show q_min 20000 (nI (P + a)) = nI HH by rw [eH]; exact t_min (a := 20000) (by decide) (by omega)]
  have f2 : q_water7 mb w hq = nI W := by
    unfold q_water7
    rw [f1, zs_ej (by decide), zs_eq rfl, s3, show (40 : Int32) * nI s = nI (40 * s) from pk_mul 40 s, t_min (by omega) (by omega), eW, Nat.min_comm, Nat.mul_comm]
  obtain ⟨n0, en0⟩ : ∃ n0, n0 = q_take7 mb w hq := ⟨_, rfl⟩
  have n0e : n0 = zs (zs mb (13, w, 0) 1 (nI HH)) (13, w, 0) 1 (nI (HH - W)) := by
    rw [en0]
    unfold q_take7
    rw [f2, f1, zs_eq rfl, pk_sub (by omega)]
  have mo : ∀ k : ZN, k.1 ≠ 1 → m0 k = ma k := fun k hk => by rw [m0e, zs_k hk]
  have mj : ∀ j, j ≠ 7 → m0 (1, w, 0) j = ma (1, w, 0) j := fun j hj => by rw [m0e, zs_ej hj]
  have no : ∀ k : ZN, k.1 ≠ 13 → n0 k = mb k := fun k hk => by rw [n0e, zs_k hk, zs_k hk]
  have nj : ∀ j, j ≠ 1 → n0 (13, w, 0) j = mb (13, w, 0) j := fun j hj => by rw [n0e, zs_ej hj, zs_ej hj]
  have hU0 : ∀ u, u < 3 → tU m0 n0 w u := fun u hu => tU_same (r7 u hu) (mo _ (zk rfl)) (by rw [no _ (zk rfl)]) (by rw [no _ (zk rfl)])
  have hL0 : tL m0 n0 w f c := tL_same r8 (mo _ (zk rfl)) (fun _ _ _ => mo _ (zk rfl)) (fun _ => mo _ (zk rfl)) (nj _ (by decide)) (no _ (zk rfl))
  have hB0 : ∀ b, b < bc → tB m0 n0 w b (sc b) (bu b) (N b) := fun b hb => tB_same (r11 b hb) (mo _ (zk rfl)) (fun _ _ _ => mo _ (zk rfl)) (fun _ _ _ => mo _ (zk rfl)) (by rw [no _ (zk rfl)]) (by rw [no _ (zk rfl)]) (by rw [no _ (zk rfl)]) (by rw [no _ (zk rfl)]) (by rw [no _ (zk rfl)]) (fun _ _ _ => by rw [no _ (zk rfl)]) (fun _ _ _ => by rw [no _ (zk rfl)]) (fun _ _ _ => by rw [no _ (zk rfl)]) (fun _ _ _ => by rw [no _ (zk rfl)])
  obtain ⟨K, k1, k2, k3, k4⟩ := t_load (sc' := sc') hB0 (fun b hb => (hs b hb).1) bc (Nat.le_refl _)
  obtain ⟨T, eT⟩ : ∃ x, x = W * 10 / K := ⟨_, rfl⟩
  have lT : T ≤ 400 := by rw [eT]; exact Nat.div_le_of_le_mul (by omega)
  have t1 : q_hourT ma w sc bc hq = nI T := by
    unfold q_hourT
    rw [e2, ← em0, k3, show q_max 1 (nI K) = nI K from (t_max (a := 1) (b := K) (by decide) (by omega)).trans (by rw [Nat.max_eq_right (by omega)]), show nI W * 10 = nI (W * 10) from pk_mul W 10, eT]
    exact pk_div (by omega) (by omega) (by omega)
  have t2 : q_turns7 mb w bc sc' hq = nI T := by
    unfold q_turns7
    rw [f2, ← en0, k4, show (10 : Int32) * nI W = nI (10 * W) from pk_mul 10 W, eT, Nat.mul_comm]
    exact pk_div (by omega) (by omega) (by omega)
  suffices q : rS (q_hourM ma w bc sc bu hq) (q_pass7 mb w bc sc' go hq) w bc sc bu (hq + 1) ∧ (∀ o, (3 * bc ≤ o ∧ o < 12 ∨ 45 ≤ o) → q_hourM ma w bc sc bu hq (7, w, o) = ma (7, w, o)) from ⟨q.1, ⟨T, lT, t1, t2⟩, q.2⟩
  obtain ⟨iU, ⟨f', c', iL⟩, z', N', i1, i2, iB, i3, i4⟩ := t_boxes (W := W) (t := T) lT (by omega) r3 (by omega : hq ≤ 5000) hs hU0 ⟨f, c, hL0⟩ ⟨z, N, by rw [mj _ (by decide)]; exact r9, by rw [nj _ (by decide)]; exact r10, hB0, r12⟩ bc (Nat.le_refl _)
  unfold q_hourM q_pass7
  dsimp only
  rw [e2, t1, f2, t2, ← em0, ← en0]
  have w1 : ∀ j, j ≠ 10 → q_boxes m0 w sc bu (nI W) (nI T) bc (1, w, 0) j = m0 (1, w, 0) j := fun j hj => q_boxes_1 hj
  have w2 : q_boxes m0 w sc bu (nI W) (nI T) bc (2, w, 24) = m0 (2, w, 24) := q_boxes_k (zk rfl) (zk rfl) (zk rfl) (zk rfl) (zk rfl)
  have w3 : ∀ j, j ≠ 14 → j ≠ 17 → q_boxes7 n0 w sc' go (nI W) (nI T) bc (13, w, 0) j = n0 (13, w, 0) j := fun j h1 h2 => q_boxes7_13 h1 h2
  have w4 : q_boxes7 n0 w sc' go (nI W) (nI T) bc (2, 10 + 20 * w, 24) = n0 (2, 10 + 20 * w, 24) := q_boxes7_10
  generalize q_boxes m0 w sc bu (nI W) (nI T) bc = mA at iU iL i1 i4 iB w1 w2 ⊢
  generalize q_boxes7 n0 w sc' go (nI W) (nI T) bc = mB at iU iL i2 iB w3 w4 ⊢
  refine ⟨⟨?_, ?_, r3, ?_, ?_, ⟨HH - W, by omega, ?_, ?_⟩, ⟨s, s1, ?_, ?_⟩, fun h hh1 => ?_, fun u hu => ?_, ⟨f', c', ?_⟩, z', N', ?_, ?_, fun b hb => ?_, by omega⟩, fun o ho => by rw [zs_k (zk rfl), i4 o ho, mo _ (zk rfl)]⟩
  · rw [zs_ej (by decide), w1 _ (by decide), mj _ (by decide)]; exact r1
  · rw [zs_ej (by decide), w3 _ (by decide) (by decide), nj _ (by decide)]; exact r2
  · rw [zs_eq rfl, w1 _ (by decide), mj _ (by decide), r4, nI_1]
  · rw [zs_eq rfl, w3 _ (by decide) (by decide), nj _ (by decide), r5, nI_1]
  · rw [zs_ej (by decide), w1 _ (by decide), m0e, zs_eq rfl]
  · rw [zs_ej (by decide), w3 _ (by decide) (by decide), n0e, zs_eq rfl]
  · rw [zs_ej (by decide), w1 _ (by decide), mj _ (by decide)]; exact s2
  · rw [zs_ej (by decide), w3 _ (by decide) (by decide), nj _ (by decide)]; exact s3
  · rw [zs_k (zk rfl), zs_k (zk rfl), w2, w4, mo _ (zk rfl), no _ (zk rfl)]; exact r6 h hh1
  · exact tU_same (iU u hu) (zs_k (zk rfl)) (by rw [zs_k (zk rfl)]) (by rw [zs_k (zk rfl)])
  · exact tL_same iL (zs_k (zk rfl)) (fun _ _ _ => zs_k (zk rfl)) (fun _ => zs_k (zk rfl)) (zs_ej (by decide)) (zs_k (zk rfl))
  · rw [zs_ej (by decide)]; exact i1
  · rw [zs_ej (by decide)]; exact i2
  · exact tB_same (iB b hb) (zs_k (zk rfl)) (fun _ _ _ => zs_k (zk rfl)) (fun _ _ _ => zs_k (zk rfl)) (by rw [zs_k (zk rfl)]) (by rw [zs_k (zk rfl)]) (by rw [zs_k (zk rfl)]) (by rw [zs_k (zk rfl)]) (by rw [zs_k (zk rfl)]) (fun _ _ _ => by rw [zs_k (zk rfl)]) (fun _ _ _ => by rw [zs_k (zk rfl)]) (fun _ _ _ => by rw [zs_k (zk rfl)]) (fun _ _ _ => by rw [zs_k (zk rfl)])
/-- hours that go by -/
theorem t_pass {ma mb : ZM} {w bc hq : Nat} {sc bu sc' go : Nat → Nat} (R : rS ma mb w bc sc bu hq) (hs : ∀ b, b < bc → sc' b = sc b ∧ go b = bu b) : ∀ n, hq + n ≤ 5000 →
    rS (q_passM ma w bc sc bu hq n) (q_runM7 mb w bc sc' go hq n) w bc sc bu (hq + n) ∧ q_passT ma w bc sc bu hq n = q_runT7 mb w bc sc' go hq n ∧ (∀ o, (3 * bc ≤ o ∧ o < 12 ∨ 45 ≤ o) → q_passM ma w bc sc bu hq n (7, w, o) = ma (7, w, o)) := by
  intro n
  induction n with
  | zero => intro _; exact ⟨R, rfl, fun _ _ => rfl⟩
  | succ n ih =>
    intro hn
    obtain ⟨i1, i2, i3⟩ := ih (by omega)
    obtain ⟨h1, ⟨T, -, h2, h3⟩, h4⟩ := t_hour i1 hs (by omega)
    exact ⟨h1, by rw [q_passT, q_runT7, i2, h2, h3], fun o ho => (h4 o ho).trans (i3 o ho)⟩
