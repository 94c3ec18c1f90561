/-! a box is fed: the class's ring of lots beside the reference's row -/
def tL (ma mb : ZM) (w f c : Nat) : Prop := ma (8, w, 0) 1 = nI f ∧ f < 30 ∧ ma (8, w, 0) 2 = nI c ∧ mb (13, w, 0) 14 = nI c ∧ c ≤ 30 ∧ ∀ j, j < c → ∃ r t h, ma (7, w, 12 + (f + j) % 30) 0 = nI r ∧ ma (7, w, 12 + (f + j) % 30) 1 = nI t ∧ ma (10, w, (f + j) % 30) 1 = nI h ∧ mb (2, 20 + 20 * w, 90) (3 * j) = nI r ∧ mb (2, 20 + 20 * w, 90) (3 * j + 1) = nI t ∧ mb (2, 20 + 20 * w, 90) (3 * j + 2) = nI h ∧ 1 ≤ r + t ∧ r + t ≤ 6000 ∧ 1 ≤ h ∧ h ≤ 9
def tF (w b : Nat) (ma mb : ZM) (A lr lt : Nat) (F : ZM × Int32) (E : ZM) : Prop := ∃ f' c' lr' lt' h' : Nat, tL F.1 E w f' c' ∧ F.1 (7, w, 3 * b) 0 = nI lr' ∧ F.1 (7, w, 3 * b) 1 = nI lt' ∧ E (2, 19 + 20 * w, 24) (6 * b) = nI lr' ∧ E (2, 19 + 20 * w, 24) (6 * b + 1) = nI lt' ∧ lr' + lt' ≤ lr + lt + A ∧ F.2 = nI h' ∧ E (2, 17 + 20 * w, 4) b = nI h' ∧ 1 ≤ h' ∧ h' ≤ 9 ∧
  (∀ o, (o < 12 ∨ 42 ≤ o) → o ≠ 3 * b → F.1 (7, w, o) = ma (7, w, o)) ∧ (∀ k, k ≠ 6 * b → k ≠ 6 * b + 1 → E (2, 19 + 20 * w, 24) k = mb (2, 19 + 20 * w, 24) k) ∧ (∀ d, d ≠ b → E (2, 17 + 20 * w, 4) d = mb (2, 17 + 20 * w, 4) d)
theorem t_feed_stop {w n : Nat} {v : ZN} {m : ZM} {a h : Int32} (c : a ≤ 0) : q_feed w v n m a h = (m, h) := by
  cases n with
  | zero => rfl
  | succ n => rw [q_feed, if_pos c]
theorem t_feed_stop2 {w n : Nat} {v : ZN} {m : ZM} {a h : Int32} (c : m (8, w, 0) 2 ≤ 0) : q_feed w v n m a h = (m, h) := by
  cases n with
  | zero => rfl
  | succ n =>
    rw [q_feed, if_pos c]
    split <;> rfl
theorem tF_0 {w b f c A lr lt h : Nat} {ma mb : ZM} (hL : tL ma mb w f c) (h0 : ma (7, w, 3 * b) 0 = nI lr) (h1 : ma (7, w, 3 * b) 1 = nI lt) (h2 : mb (2, 19 + 20 * w, 24) (6 * b) = nI lr) (h3 : mb (2, 19 + 20 * w, 24) (6 * b + 1) = nI lt) (hh : mb (2, 17 + 20 * w, 4) b = nI h) (g1 : 1 ≤ h) (g2 : h ≤ 9) : tF w b ma mb A lr lt (ma, nI h) mb :=
  ⟨f, c, lr, lt, h, hL, h0, h1, h2, h3, by omega, rfl, hh, g1, g2, fun _ _ _ => rfl, fun _ _ _ => rfl, fun _ _ => rfl⟩
theorem tF_step {w b A A1 lr lt lr1 lt1 : Nat} {ma mb ma1 mb1 : ZM} {F : ZM × Int32} {E : ZM} (h : tF w b ma1 mb1 A1 lr1 lt1 F E) (hs : lr1 + lt1 + A1 ≤ lr + lt + A) (q1 : ∀ o, (o < 12 ∨ 42 ≤ o) → o ≠ 3 * b → ma1 (7, w, o) = ma (7, w, o)) (q2 : ∀ k, k ≠ 6 * b → k ≠ 6 * b + 1 → mb1 (2, 19 + 20 * w, 24) k = mb (2, 19 + 20 * w, 24) k) (q3 : ∀ d, d ≠ b → mb1 (2, 17 + 20 * w, 4) d = mb (2, 17 + 20 * w, 4) d) : tF w b ma mb A lr lt F E := by
  obtain ⟨f', c', lr', lt', h', e1, e2, e3, e4, e5, e6, e7, e8, e9, e10, e11, e12, e13⟩ := h
  exact ⟨f', c', lr', lt', h', e1, e2, e3, e4, e5, by omega, e7, e8, e9, e10, fun o g1 g2 => (e11 o g1 g2).trans (q1 o g1 g2), fun k g1 g2 => (e12 k g1 g2).trans (q2 k g1 g2), fun d g => (e13 d g).trans (q3 d g)⟩
theorem q_dropFirst_k {m : ZM} {w : Nat} {k : ZN} (h : k.1 ≠ 8) : q_dropFirst m w k = m k := by
  unfold q_dropFirst
  rw [zs_k h, zs_k h]
theorem q_dropFirst_2 {m : ZM} {w : Nat} : q_dropFirst m w (8, w, 0) 2 = m (8, w, 0) 2 - 1 := by
  unfold q_dropFirst
  rw [zs_eq rfl, zs_ej (by decide)]
set_option maxHeartbeats 4000000 in
theorem t_feed {w b : Nat} (hb : b < 4) : ∀ (n : Nat) {ma mb : ZM} {f c A lr lt h : Nat}, tL ma mb w f c → c ≤ n → A ≤ 300 → ma (7, w, 3 * b) 0 = nI lr → ma (7, w, 3 * b) 1 = nI lt → mb (2, 19 + 20 * w, 24) (6 * b) = nI lr → mb (2, 19 + 20 * w, 24) (6 * b + 1) = nI lt → mb (2, 17 + 20 * w, 4) b = nI h → 1 ≤ h → h ≤ 9 →
    tF w b ma mb A lr lt (q_feed w (7, w, 3 * b) n ma (nI A) (nI h)) (q_eat w b (n + 1) mb (nI A)) := by
  intro n
  induction n with
  | zero =>
    intro ma mb f c A lr lt h hL hc hA h0 h1 h2 h3 hh g1 g2
    have c0 : c = 0 := by omega
    rw [q_eat_stop2 (by rw [hL.2.2.2.1, c0]; decide)]
    exact tF_0 hL h0 h1 h2 h3 hh g1 g2
  | succ n ih =>
    intro ma mb f c A lr lt h hL hc hA h0 h1 h2 h3 hh g1 g2
    by_cases cA : A = 0
    · have z : nI A ≤ 0 := by rw [cA]; decide
      rw [t_feed_stop z, q_eat_stop z]
      exact tF_0 hL h0 h1 h2 h3 hh g1 g2
    by_cases c0 : c = 0
    · rw [t_feed_stop2 (by rw [hL.2.2.1, c0]; decide), q_eat_stop2 (by rw [hL.2.2.2.1, c0]; decide)]
      exact tF_0 hL h0 h1 h2 h3 hh g1 g2
    obtain ⟨k1, k2, k3, k4, k5, k6⟩ := hL
    obtain ⟨r, t, hd, l0, l1, l2, l3, l4, l5, l6, l7, l8, l9⟩ := k6 0 (by omega)
    have ef : (f + 0) % 30 = f := by omega
    rw [ef] at l0 l1 l2
    have l3 : mb (2, 20 + 20 * w, 90) 0 = nI r := l3
    have l4 : mb (2, 20 + 20 * w, 90) 1 = nI t := l4
    have l5 : mb (2, 20 + 20 * w, 90) 2 = nI hd := l5
    obtain ⟨a, ea⟩ : ∃ a, a = min A (r + t) := ⟨_, rfl⟩
    have nv : ((7, w, 12 + f) : ZN) ≠ (7, w, 3 * b) := z7_ne (by omega)
    obtain ⟨s0, s1, s2, s3, s4⟩ := t_move (v := (7, w, 3 * b)) nv l0 l1 h0 h1 (by omega) (X := A) (by omega) ea
    have lT := tT_t (r := r) (t := t) (a := a) (by omega)
    have lA := tT_a (r := r) (t := t) (a := a)
    have lR := tT_r (r := r) (t := t) (a := a) (by omega)
    obtain ⟨m1, em1⟩ : ∃ m1, m1 = q_move ma (7, w, 12 + f) (7, w, 3 * b) (nI A) := ⟨_, rfl⟩
    rw [← em1] at s1 s2 s3 s4
    obtain ⟨n1, en1⟩ : ∃ n1, n1 = zs mb (2, 17 + 20 * w, 4) b (mb (2, 20 + 20 * w, 90) 2) := ⟨_, rfl⟩
    have n20 : ∀ j, n1 (2, 20 + 20 * w, 90) j = mb (2, 20 + 20 * w, 90) j := fun j => by rw [en1, zs_ne (z2_ne (by omega))]
    have n19 : ∀ j, n1 (2, 19 + 20 * w, 24) j = mb (2, 19 + 20 * w, 24) j := fun j => by rw [en1, zs_ne (z2_ne (by omega))]
    have nu : ((2, 20 + 20 * w, 90) : ZN) ≠ (2, 19 + 20 * w, 24) := z2_ne (by omega)
    obtain ⟨u1, u2, u3, u4⟩ := t_mvd (m := n1) (i := 0) (j := 6 * b) (a := a) nu (by rw [n20]; exact l3) (by rw [n20]; exact l4) (by rw [n19]; exact h2) (by rw [n19]; exact h3) (by omega) (by omega)
    obtain ⟨n2, en2⟩ : ∃ n2, n2 = q_mv n1 (2, 20 + 20 * w, 90) 0 (2, 19 + 20 * w, 24) (6 * b) (nI a) := ⟨_, rfl⟩
    rw [← en2] at u1 u2 u3 u4
    have f7 : ∀ o, o ≠ 12 + f → o ≠ 3 * b → m1 (7, w, o) = ma (7, w, o) := fun o q1 q2 => by rw [em1, q_move_ne (z7_ne q1) (z7_ne q2)]
    have fk : ∀ k : ZN, k.1 ≠ 7 → m1 k = ma k := fun k hk => by rw [em1, q_move_k hk hk]
    have f20 : ∀ j, 2 ≤ j → n2 (2, 20 + 20 * w, 90) j = mb (2, 20 + 20 * w, 90) j := fun j hj => by rw [en2, q_mv_o (by omega) (fun q => absurd q.1 nu), n20]
    have f19 : ∀ j, j ≠ 6 * b → j ≠ 6 * b + 1 → n2 (2, 19 + 20 * w, 24) j = mb (2, 19 + 20 * w, 24) j := fun j j1 j2 => by rw [en2, q_mv_o (fun q => absurd q.1.symm nu) (by omega), n19]
    have f17 : ∀ d, d ≠ b → n2 (2, 17 + 20 * w, 4) d = mb (2, 17 + 20 * w, 4) d := fun d hd => by rw [en2, q_mv_ne (z2_ne (by omega)) (z2_ne (by omega)), en1, zs_ej hd]
    have g17 : n2 (2, 17 + 20 * w, 4) b = nI hd := by rw [en2, q_mv_ne (z2_ne (by omega)) (z2_ne (by omega)), en1, zs_eq rfl]; exact l5
    have g13 : n2 (13, w, 0) 14 = nI c := by rw [en2, q_mv_k (zk rfl) (zk rfl), en1, zs_k (zk rfl)]; exact k4
    have eh : nI hd = m1 (10, w, f) 1 := by rw [fk _ (zk rfl)]; exact l2.symm
    have ewh : q_whole m1 (7, w, 12 + f) = nI (r + t - a) := by
      unfold q_whole
      rw [s1, s2, nI_add, show r - (a - tT r t a) + (t - tT r t a) = r + t - a by omega]
    have ewh2 : n2 (2, 20 + 20 * w, 90) 0 + n2 (2, 20 + 20 * w, 90) 1 = nI (r + t - a) := by
      rw [u1, show n2 (2, 20 + 20 * w, 90) 1 = nI (t - tT r t a) from u2, nI_add, show r - (a - tT r t a) + (t - tT r t a) = r + t - a by omega]
    have ex : nI a = if mb (2, 20 + 20 * w, 90) 0 + mb (2, 20 + 20 * w, 90) 1 < nI A then mb (2, 20 + 20 * w, 90) 0 + mb (2, 20 + 20 * w, 90) 1 else nI A := by
      rw [l3, l4, nI_add, ea]
      exact (t_min (a := A) (b := r + t) (by omega) (by omega)).symm
    have eA1 : nI (A - a) = nI A - nI a := (pk_sub (by omega)).symm
    have p1 : ¬ nI A ≤ 0 := nI_nle (by omega) (by omega)
    have p2 : ¬ ma (8, w, 0) 2 ≤ 0 := by rw [k3]; exact nI_nle (by omega) (by omega)
    have p3 : ¬ mb (13, w, 0) 14 ≤ 0 := by rw [k4]; exact nI_nle (by omega) (by omega)
    by_cases cw : r + t ≤ A
    · have ea2 : a = r + t := by omega
      have z1 : ¬ ¬ q_whole m1 (7, w, 12 + f) = 0 := fun q => q (by rw [ewh, ea2, Nat.sub_self]; rfl)
      have z2 : ¬ ¬ n2 (2, 20 + 20 * w, 90) 0 + n2 (2, 20 + 20 * w, 90) 1 = 0 := fun q => q (by rw [ewh2, ea2, Nat.sub_self]; rfl)
      rw [q_feed_go (n := n) (g := f) (h := nI h) (by rw [k1]; exact nI_clamp (by omega)) p1 p2 s0.symm em1 eA1 eh (Or.inr ⟨z1, rfl⟩), q_eat_go (n := n + 1) (ln := c) (by rw [k4]; exact nI_clamp (by omega)) p1 p3 ex en1 en2 eA1 (Or.inr ⟨z2, rfl⟩)]
      have d19 : ∀ j, q_drop7 n2 w c (2, 19 + 20 * w, 24) j = n2 (2, 19 + 20 * w, 24) j := fun j => by unfold q_drop7; rw [q_shift_ne (z2_ne (by omega)), zs_k (zk rfl)]
      have d17 : ∀ j, q_drop7 n2 w c (2, 17 + 20 * w, 4) j = n2 (2, 17 + 20 * w, 4) j := fun j => by unfold q_drop7; rw [q_shift_ne (z2_ne (by omega)), zs_k (zk rfl)]
      have d20 : ∀ j, j < 3 * (c - 1) → q_drop7 n2 w c (2, 20 + 20 * w, 90) j = mb (2, 20 + 20 * w, 90) (j + 3) := fun j hj => by unfold q_drop7; rw [q_shift_lo hj, zs_k (zk rfl), f20 _ (by omega)]
      refine tF_step (ih (f := (f + 1) % 30) (c := c - 1) (A := A - a) (lr := lr + (a - tT r t a)) (lt := lt + tT r t a) (h := hd) ⟨?_, Nat.mod_lt _ (by decide), ?_, q_drop7_n g13 (by omega), by omega, fun j hj => ?_⟩ (by omega) (by omega) (by rw [q_dropFirst_k (zk rfl)]; exact s3) (by rw [q_dropFirst_k (zk rfl)]; exact s4) (by rw [d19]; exact u3) (by rw [d19]; exact u4) (by rw [d17]; exact g17) l8 l9) (by omega) (fun o q1 q2 => ?_) (fun k q1 q2 => ?_) (fun d q => ?_)
      · rw [q_dropFirst_1, fk _ (zk rfl), k1, nI_1]
        exact q_fmodN (a := f + 1) (d := 30) (by omega) (by decide) (by decide)
      · rw [q_dropFirst_2, fk _ (zk rfl), k3]
        exact pk_sub (b := 1) (by omega)
      · obtain ⟨r2, t2, h2', x0, x1, x2, x3, x4, x5, x6⟩ := k6 (j + 1) (by omega)
        have ej : ((f + 1) % 30 + j) % 30 = (f + (j + 1)) % 30 := by omega
        refine ⟨r2, t2, h2', ?_, ?_, ?_, ?_, ?_, ?_, x6⟩
        · rw [ej, q_dropFirst_k (zk rfl), f7 _ (by omega) (by omega)]; exact x0
        · rw [ej, q_dropFirst_k (zk rfl), f7 _ (by omega) (by omega)]; exact x1
        · rw [ej, q_dropFirst_k (zk rfl), fk _ (zk rfl)]; exact x2
        · rw [d20 _ (by omega), show 3 * j + 3 = 3 * (j + 1) by omega]; exact x3
        · rw [d20 _ (by omega), show 3 * j + 1 + 3 = 3 * (j + 1) + 1 by omega]; exact x4
        · rw [d20 _ (by omega), show 3 * j + 2 + 3 = 3 * (j + 1) + 2 by omega]; exact x5
      · rw [q_dropFirst_k (zk rfl), f7 _ (by omega) q2]
      · rw [d19, f19 _ q1 q2]
      · rw [d17, f17 _ q]
    · have ea2 : a = A := by omega
      have z0 : ¬ nI (r + t - a) = 0 := nI_ne0 (by omega) (by omega)
      have z1 : ¬ q_whole m1 (7, w, 12 + f) = 0 := by rw [ewh]; exact z0
      have z2 : ¬ n2 (2, 20 + 20 * w, 90) 0 + n2 (2, 20 + 20 * w, 90) 1 = 0 := by rw [ewh2]; exact z0
      have zA : nI (A - a) ≤ 0 := by rw [ea2, Nat.sub_self]; decide
      rw [q_feed_go (n := n) (g := f) (h := nI h) (by rw [k1]; exact nI_clamp (by omega)) p1 p2 s0.symm em1 eA1 eh (Or.inl ⟨z1, rfl⟩), q_eat_go (n := n + 1) (ln := c) (by rw [k4]; exact nI_clamp (by omega)) p1 p3 ex en1 en2 eA1 (Or.inl ⟨z2, rfl⟩), t_feed_stop zA, q_eat_stop zA]
      refine tF_step (tF_0 (A := A - a) (lr := lr + (a - tT r t a)) (lt := lt + tT r t a) (h := hd) (f := f) (c := c) ⟨by rw [fk _ (zk rfl)]; exact k1, k2, by rw [fk _ (zk rfl)]; exact k3, g13, k5, fun j hj => ?_⟩ s3 s4 u3 u4 g17 l8 l9) (by omega) (fun o q1 q2 => f7 _ (by omega) q2) (fun k q1 q2 => f19 _ q1 q2) (fun d q => f17 _ q)
      by_cases j0 : j = 0
      · subst j0
        rw [ef]
        exact ⟨_, _, hd, s1, s2, by rw [fk _ (zk rfl)]; exact l2, u1, u2, by rw [f20 _ (by omega)]; exact l5, by omega, by omega, l8, l9⟩
      · obtain ⟨r2, t2, h2', x0, x1, x2, x3, x4, x5, x6⟩ := k6 j hj
        refine ⟨r2, t2, h2', ?_, ?_, ?_, ?_, ?_, ?_, x6⟩
        · rw [f7 _ (by omega) (by omega)]; exact x0
        · rw [f7 _ (by omega) (by omega)]; exact x1
        · rw [fk _ (zk rfl)]; exact x2
        · rw [f20 _ (by omega)]; exact x3
        · rw [f20 _ (by omega)]; exact x4
        · rw [f20 _ (by omega)]; exact x5
