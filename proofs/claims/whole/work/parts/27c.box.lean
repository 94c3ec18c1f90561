/-! an hour of one box, side by side -/
def tO (ma mb : ZM) (w s r t : Nat) : Prop := ma (7, w, s) 0 = nI r ∧ ma (7, w, s) 1 = nI t ∧ mb (2, 19 + 20 * w, 24) (2 * s) = nI r ∧ mb (2, 19 + 20 * w, 24) (2 * s + 1) = nI t
def tSt (ma mb : ZM) (w b sc : Nat) : Prop := ∀ k, k < sc → ∃ p q u, ma (6, w, 4 * b + k) 0 = nI p ∧ ma (6, w, 4 * b + k) 1 = nI q ∧ ma (6, w, 4 * b + k) 2 = nI u ∧ mb (2, 12 + 20 * w, 16) (4 * b + k) = nI p ∧ mb (2, 13 + 20 * w, 16) (4 * b + k) = nI q ∧ mb (2, 14 + 20 * w, 16) (4 * b + k) = nI u ∧ p ≤ 60 ∧ q ≤ 4 ∧ u ≤ 90
def tX (ma mb : ZM) (w b lr lt gr gt sr st : Nat) : Prop := tO ma mb w (3 * b) lr lt ∧ tO ma mb w (3 * b + 1) gr gt ∧ tO ma mb w (3 * b + 2) sr st
theorem t_force1 {p q u t : Nat} (hp : p ≤ 60) (hq : q ≤ 4) (hu : u ≤ 90) (ht : t ≤ 400) : nI p * nI q * nI t * (100 - nI u) / 1000 = nI (p * q * t * (100 - u) / 1000) ∧ p * q * t * (100 - u) / 1000 ≤ 9600 := by
  have h1 : p * q ≤ 60 * 4 := Nat.mul_le_mul hp hq
  have h2 : p * q * t ≤ 60 * 4 * 400 := Nat.mul_le_mul h1 ht
  have h3 : p * q * t * (100 - u) ≤ 60 * 4 * 400 * 100 := Nat.mul_le_mul h2 (by omega)
  generalize hx : p * q * t * (100 - u) = X at h3 ⊢
  refine ⟨?_, by omega⟩
  rw [show (100 : Int32) - nI u = nI (100 - u) from pk_sub (a := 100) (by omega), pk_mul, pk_mul, pk_mul, hx]
  exact pk_div (d := 1000) (by omega) (by decide) (by decide)
theorem t_forces {ma mb : ZM} {w b sc t : Nat} (hS : tSt ma mb w b sc) (ht : t ≤ 400) : ∀ n, n ≤ sc → ∃ F, F ≤ 9600 * n ∧ q_forces ma w b (nI t) n = nI F ∧ q_fs7 mb w b (nI t) n (2, 18 + 20 * w, 4) b = nI F := by
  intro n
  induction n with
  | zero => intro _; exact ⟨0, by omega, nI_0.symm, by rw [q_fs7, zs_eq rfl]; exact nI_0.symm⟩
  | succ n ih =>
    intro hn
    obtain ⟨F, f1, f2, f3⟩ := ih (by omega)
    obtain ⟨p, q, u, x0, x1, x2, y0, y1, y2, g0, g1, g2⟩ := hS n (by omega)
    obtain ⟨k1, k2⟩ := t_force1 g0 g1 g2 ht
    refine ⟨F + p * q * t * (100 - u) / 1000, by omega, ?_, ?_⟩
    · show q_forces ma w b (nI t) n + q_force1 ma (6, w, 4 * b + n) (nI t) = _
      unfold q_force1
      rw [f2, x0, x1, x2, k1, nI_add]
    · rw [q_fs7, zs_eq rfl, f3, q_fs7_k (k := (2, 12 + 20 * w, 16)) (z2_ne (by omega)), q_fs7_k (k := (2, 13 + 20 * w, 16)) (z2_ne (by omega)), q_fs7_k (k := (2, 14 + 20 * w, 16)) (z2_ne (by omega)), y0, y1, y2, k1, nI_add]
theorem t_fs7_o {mb : ZM} {w b n d : Nat} {t : Int32} (h : d ≠ b) : q_fs7 mb w b t n (2, 18 + 20 * w, 4) d = mb (2, 18 + 20 * w, 4) d := by
  induction n with
  | zero => rw [q_fs7, zs_ej h]
  | succ n ih => rw [q_fs7, zs_ej h, ih]
theorem tO_same {ma mb ma' mb' : ZM} {w s r t : Nat} (h : tO ma mb w s r t) (e : ma' (7, w, s) = ma (7, w, s)) (e0 : mb' (2, 19 + 20 * w, 24) (2 * s) = mb (2, 19 + 20 * w, 24) (2 * s)) (e1 : mb' (2, 19 + 20 * w, 24) (2 * s + 1) = mb (2, 19 + 20 * w, 24) (2 * s + 1)) : tO ma' mb' w s r t := by
  unfold tO
  rw [e, e0, e1]
  exact h
theorem t_mvO {ma mb : ZM} {w s r t r' t' X a : Nat} (h : tO ma mb w s r t) (h' : tO ma mb w (s + 1) r' t') (hb : r + t < 2 ^ 31) (hX : X < 2 ^ 31) (ha : a = min X (r + t)) :
    tO (q_move ma (7, w, s) (7, w, s + 1) (nI X)) (q_mv mb (2, 19 + 20 * w, 24) (2 * s) (2, 19 + 20 * w, 24) (2 * s + 2) (nI a)) w s (r - (a - tT r t a)) (t - tT r t a) ∧ tO (q_move ma (7, w, s) (7, w, s + 1) (nI X)) (q_mv mb (2, 19 + 20 * w, 24) (2 * s) (2, 19 + 20 * w, 24) (2 * s + 2) (nI a)) w (s + 1) (r' + (a - tT r t a)) (t' + tT r t a) := by
  have e : 2 * (s + 1) = 2 * s + 2 := by omega
  obtain ⟨x0, x1, x2, x3⟩ := h
  obtain ⟨y0, y1, y2, y3⟩ := h'
  rw [e] at y2 y3
  obtain ⟨-, s1, s2, s3, s4⟩ := t_move (z7_ne (w := w) (a := s) (b := s + 1) (by omega)) x0 x1 y0 y1 hb hX ha
  obtain ⟨u1, u2, u3, u4⟩ := t_mvs x2 x3 y2 y3 hb (a := a) (by omega)
  refine ⟨⟨s1, s2, u1, u2⟩, ?_⟩
  unfold tO
  rw [e]
  exact ⟨s3, s4, u3, u4⟩
set_option maxHeartbeats 4000000 in
theorem t_blow {ma mb : ZM} {w b sc h t lr lt gr gt sr st : Nat} (hS : tSt ma mb w b sc) (hsc : sc ≤ 4) (ht : t ≤ 400) (hh : ma (4, w, b) 7 = nI h) (h1 : 1 ≤ h) (h9 : h ≤ 9) (hO : tX ma mb w b lr lt gr gt sr st) (hN : lr + lt + gr + gt + sr + st < 2 ^ 30) :
    ∃ F lr' lt' gr' gt' sr' st', F ≤ 40000 ∧ lr' + lt' + gr' + gt' + sr' + st' = lr + lt + gr + gt + sr + st ∧ tX (q_blow ma w b sc (nI t)) (q_blow7 mb w b sc h (nI t)) w b lr' lt' gr' gt' sr' st' ∧ q_blow ma w b sc (nI t) (4, w, b) 8 = nI F ∧ q_blow7 mb w b sc h (nI t) (2, 18 + 20 * w, 4) b = nI F := by
  obtain ⟨oL, oG, oS⟩ := hO
  obtain ⟨F, f1, f2, f3⟩ := t_forces hS ht sc (Nat.le_refl _)
  obtain ⟨m1, em1⟩ : ∃ m1, m1 = zs ma (4, w, b) 8 (nI F) := ⟨_, rfl⟩
  obtain ⟨n1, en1⟩ : ∃ n1, n1 = q_fs7 mb w b (nI t) sc := ⟨_, rfl⟩
  have a7 : ∀ o, m1 (7, w, o) = ma (7, w, o) := fun o => by rw [em1, zs_k (zk rfl)]
  have a19 : n1 (2, 19 + 20 * w, 24) = mb (2, 19 + 20 * w, 24) := by rw [en1, q_fs7_k (z2_ne (by omega))]
  have o1 : tO m1 n1 w (3 * b) lr lt := tO_same oL (a7 _) (by rw [a19]) (by rw [a19])
  have o2 : tO m1 n1 w (3 * b + 1) gr gt := tO_same oG (a7 _) (by rw [a19]) (by rw [a19])
  have o3 : tO m1 n1 w (3 * b + 2) sr st := tO_same oS (a7 _) (by rw [a19]) (by rw [a19])
  have q1 : F / h ≤ F := Nat.div_le_self _ _
  have q2 : F / (2 * h) ≤ F := Nat.div_le_self _ _
  obtain ⟨a, ea⟩ : ∃ a, a = min (F / h) (lr + lt) := ⟨_, rfl⟩
  obtain ⟨p1, p2⟩ := t_mvO (X := F / h) (a := a) o1 o2 (by omega) (by omega) ea
  have lT := tT_t (r := lr) (t := lt) (a := a) (by omega)
  have lA := tT_a (r := lr) (t := lt) (a := a)
  have lR := tT_r (r := lr) (t := lt) (a := a) (by omega)
  rw [show 2 * (3 * b) = 6 * b by omega] at p1 p2
  obtain ⟨m2, em2⟩ : ∃ m2, m2 = q_move m1 (7, w, 3 * b) (7, w, 3 * b + 1) (nI (F / h)) := ⟨_, rfl⟩
  obtain ⟨n2, en2⟩ : ∃ n2, n2 = q_mv n1 (2, 19 + 20 * w, 24) (6 * b) (2, 19 + 20 * w, 24) (6 * b + 2) (nI a) := ⟨_, rfl⟩
  rw [← em2, ← en2] at p1 p2
  have p3 : tO m2 n2 w (3 * b + 2) sr st := tO_same o3 (by rw [em2, q_move_ne (z7_ne (by omega)) (z7_ne (by omega))]) (by rw [en2, q_mv_o (by omega) (by omega)]) (by rw [en2, q_mv_o (by omega) (by omega)])
  obtain ⟨gr1, eg1⟩ : ∃ x, x = gr + (a - tT lr lt a) := ⟨_, rfl⟩
  obtain ⟨gt1, eg2⟩ : ∃ x, x = gt + tT lr lt a := ⟨_, rfl⟩
  rw [← eg1, ← eg2] at p2
  obtain ⟨c, ec⟩ : ∃ c, c = min (F / (2 * h)) (gr1 + gt1) := ⟨_, rfl⟩
  obtain ⟨r1, r2⟩ := t_mvO (s := 3 * b + 1) (X := F / (2 * h)) (a := c) p2 p3 (by omega) (by omega) ec
  have kT := tT_t (r := gr1) (t := gt1) (a := c) (by omega)
  have kA := tT_a (r := gr1) (t := gt1) (a := c)
  have kR := tT_r (r := gr1) (t := gt1) (a := c) (by omega)
  rw [show 2 * (3 * b + 1) + 2 = 6 * b + 4 by omega, show 2 * (3 * b + 1) = 6 * b + 2 by omega] at r1 r2
  obtain ⟨m3, em3⟩ : ∃ m3, m3 = q_move m2 (7, w, 3 * b + 1) (7, w, 3 * b + 2) (nI (F / (2 * h))) := ⟨_, rfl⟩
  obtain ⟨n3, en3⟩ : ∃ n3, n3 = q_mv n2 (2, 19 + 20 * w, 24) (6 * b + 2) (2, 19 + 20 * w, 24) (6 * b + 4) (nI c) := ⟨_, rfl⟩
  rw [show 3 * b + 1 + 1 = 3 * b + 2 by omega, ← em3, ← en3] at r1 r2
  have r0 := tO_same (ma' := m3) (mb' := n3) p1 (by rw [em3, q_move_ne (z7_ne (by omega)) (z7_ne (by omega))]) (by rw [en3, q_mv_o (by omega) (by omega)]) (by rw [en3, q_mv_o (by omega) (by omega)])
  have k47 : m1 (4, w, b) 7 = nI h := by rw [em1, zs_ej (by decide)]; exact hh
  have k48 : m1 (4, w, b) 8 = nI F := by rw [em1, zs_eq rfl]
  have k482 : m2 (4, w, b) 8 = nI F := by rw [em2, q_move_k (zk rfl) (zk rfl)]; exact k48
  have k483 : m3 (4, w, b) 8 = nI F := by rw [em3, q_move_k (zk rfl) (zk rfl)]; exact k482
  have j18 : n1 (2, 18 + 20 * w, 4) b = nI F := by rw [en1]; exact f3
  have j182 : n2 (2, 18 + 20 * w, 4) b = nI F := by rw [en2, q_mv_ne (z2_ne (by omega)) (z2_ne (by omega))]; exact j18
  have j183 : n3 (2, 18 + 20 * w, 4) b = nI F := by rw [en3, q_mv_ne (z2_ne (by omega)) (z2_ne (by omega))]; exact j182
  have emx : q_max 1 (nI h) = nI h := (t_max (a := 1) (b := h) (by decide) (by omega)).trans (by rw [Nat.max_eq_right h1])
  have e2h : 2 * nI h = nI (2 * h) := pk_mul 2 h
  have ed1 : nI F / nI h = nI (F / h) := pk_div (by omega) (by omega) (by omega)
  have ed2 : nI F / nI (2 * h) = nI (F / (2 * h)) := pk_div (by omega) (by omega) (by omega)
  have eA : q_blow ma w b sc (nI t) = m3 := by
    unfold q_blow
    dsimp only
    rw [f2, ← em1, k47, k48, emx, ed1, ← em2, k482, e2h, ed2, ← em3]
  have ep1 : q_pair n1 (2, 19 + 20 * w, 24) (2 * (3 * b + 0)) = nI (lr + lt) := by
    unfold q_pair
    rw [show 2 * (3 * b + 0) = 2 * (3 * b) by omega, o1.2.2.1, o1.2.2.2, nI_add]
  have ep2 : q_pair n2 (2, 19 + 20 * w, 24) (2 * (3 * b + 1)) = nI (gr1 + gt1) := by
    unfold q_pair
    rw [p2.2.2.1, p2.2.2.2, nI_add]
  have em4 : q_min (nI (lr + lt)) (nI (F / h)) = nI a := (t_min (by omega) (by omega)).trans (by rw [Nat.min_comm, ea])
  have em5 : q_min (nI (gr1 + gt1)) (nI (F / (2 * h))) = nI c := (t_min (by omega) (by omega)).trans (by rw [Nat.min_comm, ec])
  have eB : q_blow7 mb w b sc h (nI t) = n3 := by
    unfold q_blow7
    dsimp only
    rw [← en1, ep1, j18, ed1, em4, ← en2, ep2, j182, e2h, ed2, em5, ← en3]
  rw [eA, eB]
  exact ⟨F, _, _, _, _, _, _, by omega, by omega, ⟨r0, r1, r2⟩, k483, j183⟩
