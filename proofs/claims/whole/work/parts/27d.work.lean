/-! an hour's work on one box, side by side -/
def tB (ma mb : ZM) (w b sc bu N : Nat) : Prop :=
  ma (4, w, b) 4 = nI sc ∧ mb (2, 11 + 20 * w, 4) b = nI sc ∧ sc ≤ 4 ∧ ma (4, w, b) 6 = nI bu ∧ mb (2, 16 + 20 * w, 4) b = nI bu ∧ bu < 3 ∧ (∃ F, F ≤ 300 ∧ ma (4, w, b) 5 = nI F ∧ mb (2, 15 + 20 * w, 4) b = nI F) ∧ (∃ h, 1 ≤ h ∧ h ≤ 9 ∧ ma (4, w, b) 7 = nI h ∧ mb (2, 17 + 20 * w, 4) b = nI h) ∧ (∃ F, F ≤ 40000 ∧ ma (4, w, b) 8 = nI F ∧ mb (2, 18 + 20 * w, 4) b = nI F) ∧ tSt ma mb w b sc ∧ ∃ lr lt gr gt sr st, tX ma mb w b lr lt gr gt sr st ∧ lr + lt + gr + gt + sr + st = N
def tU (ma mb : ZM) (w u : Nat) : Prop := ∃ r t, r + t ≤ 6000 ∧ ma (7, w, 42 + u) 0 = nI r ∧ ma (7, w, 42 + u) 1 = nI t ∧ mb (2, 21 + 20 * w, 6) (2 * u) = nI r ∧ mb (2, 21 + 20 * w, 6) (2 * u + 1) = nI t
section TS
variable {ma mb ma' mb' : ZM} {w : Nat}
theorem tL_same {f c : Nat} (h : tL ma mb w f c) (a1 : ma' (8, w, 0) = ma (8, w, 0)) (a2 : ∀ o, 12 ≤ o → o < 42 → ma' (7, w, o) = ma (7, w, o)) (a3 : ∀ o, ma' (10, w, o) = ma (10, w, o)) (b1 : mb' (13, w, 0) 14 = mb (13, w, 0) 14) (b2 : mb' (2, 20 + 20 * w, 90) = mb (2, 20 + 20 * w, 90)) : tL ma' mb' w f c := by
  obtain ⟨k1, k2, k3, k4, k5, k6⟩ := h
  refine ⟨by rw [a1]; exact k1, k2, by rw [a1]; exact k3, by rw [b1]; exact k4, k5, fun j hj => ?_⟩
  rw [a2 _ (by omega) (by omega), a3, b2]
  exact k6 j hj
theorem tSt_same {d sc : Nat} (h : tSt ma mb w d sc) (hs : sc ≤ 4) (a2 : ∀ j, 4 * d ≤ j → j < 4 * d + 4 → ma' (6, w, j) = ma (6, w, j)) (b6 : ∀ j, 4 * d ≤ j → j < 4 * d + 4 → mb' (2, 12 + 20 * w, 16) j = mb (2, 12 + 20 * w, 16) j) (b7 : ∀ j, 4 * d ≤ j → j < 4 * d + 4 → mb' (2, 13 + 20 * w, 16) j = mb (2, 13 + 20 * w, 16) j) (b8 : ∀ j, 4 * d ≤ j → j < 4 * d + 4 → mb' (2, 14 + 20 * w, 16) j = mb (2, 14 + 20 * w, 16) j) : tSt ma' mb' w d sc := by
  intro k hk
  rw [a2 _ (by omega) (by omega), b6 _ (by omega) (by omega), b7 _ (by omega) (by omega), b8 _ (by omega) (by omega)]
  exact h k hk
theorem tB_same {d sc bu N : Nat} (h : tB ma mb w d sc bu N) (a1 : ma' (4, w, d) = ma (4, w, d)) (a2 : ∀ j, 4 * d ≤ j → j < 4 * d + 4 → ma' (6, w, j) = ma (6, w, j)) (a3 : ∀ o, 3 * d ≤ o → o < 3 * d + 3 → ma' (7, w, o) = ma (7, w, o))
    (b1 : mb' (2, 11 + 20 * w, 4) d = mb (2, 11 + 20 * w, 4) d) (b2 : mb' (2, 16 + 20 * w, 4) d = mb (2, 16 + 20 * w, 4) d) (b3 : mb' (2, 15 + 20 * w, 4) d = mb (2, 15 + 20 * w, 4) d) (b4 : mb' (2, 17 + 20 * w, 4) d = mb (2, 17 + 20 * w, 4) d) (b5 : mb' (2, 18 + 20 * w, 4) d = mb (2, 18 + 20 * w, 4) d)
    (b6 : ∀ j, 4 * d ≤ j → j < 4 * d + 4 → mb' (2, 12 + 20 * w, 16) j = mb (2, 12 + 20 * w, 16) j) (b7 : ∀ j, 4 * d ≤ j → j < 4 * d + 4 → mb' (2, 13 + 20 * w, 16) j = mb (2, 13 + 20 * w, 16) j) (b8 : ∀ j, 4 * d ≤ j → j < 4 * d + 4 → mb' (2, 14 + 20 * w, 16) j = mb (2, 14 + 20 * w, 16) j) (b9 : ∀ j, 6 * d ≤ j → j < 6 * d + 6 → mb' (2, 19 + 20 * w, 24) j = mb (2, 19 + 20 * w, 24) j) : tB ma' mb' w d sc bu N := by
  obtain ⟨h1, h2, h3, h4, h5, h6, h7, h8, h9, h10, lr, lt, gr, gt, sr, st, ⟨x1, x2, x3⟩, hs⟩ := h
  refine ⟨by rw [a1]; exact h1, by rw [b1]; exact h2, h3, by rw [a1]; exact h4, by rw [b2]; exact h5, h6, by rw [a1, b3]; exact h7, by rw [a1, b4]; exact h8, by rw [a1, b5]; exact h9, tSt_same h10 h3 a2 b6 b7 b8, lr, lt, gr, gt, sr, st, ⟨?_, ?_, ?_⟩, hs⟩
  · exact tO_same x1 (a3 _ (by omega) (by omega)) (b9 _ (by omega) (by omega)) (b9 _ (by omega) (by omega))
  · exact tO_same x2 (a3 _ (by omega) (by omega)) (b9 _ (by omega) (by omega)) (b9 _ (by omega) (by omega))
  · exact tO_same x3 (a3 _ (by omega) (by omega)) (b9 _ (by omega) (by omega)) (b9 _ (by omega) (by omega))
theorem tU_same {u : Nat} (h : tU ma mb w u) (a1 : ma' (7, w, 42 + u) = ma (7, w, 42 + u)) (b1 : mb' (2, 21 + 20 * w, 6) (2 * u) = mb (2, 21 + 20 * w, 6) (2 * u)) (b2 : mb' (2, 21 + 20 * w, 6) (2 * u + 1) = mb (2, 21 + 20 * w, 6) (2 * u + 1)) : tU ma' mb' w u := by
  unfold tU
  rw [a1, b1, b2]
  exact h
end TS
theorem t_wear {ma mb : ZM} {w b sc t : Nat} (hS : tSt ma mb w b sc) (ht : t ≤ 400) : ∀ n, n ≤ sc → tSt (q_wearS ma w b (nI t) n) (q_wear7 mb w b (nI t) n) w b sc := by
  intro n
  induction n with
  | zero => intro _; exact hS
  | succ n ih =>
    intro hn k hk
    obtain ⟨p, q, u, x0, x1, x2, y0, y1, y2, g0, g1, g2⟩ := ih (by omega) k hk
    rw [q_wearS, q_wear7, q_wearBy]
    by_cases e : k = n
    · subst e
      refine ⟨p, q, min 90 (u + t / 200), by rw [zs_ej (by decide)]; exact x0, by rw [zs_ej (by decide)]; exact x1, ?_, by rw [zs_ne (z2_ne (by omega))]; exact y0, by rw [zs_ne (z2_ne (by omega))]; exact y1, ?_, g0, g1, by omega⟩
      · rw [zs_eq rfl, x2, show nI t / 200 = nI (t / 200) from pk_div (d := 200) (by omega) (by decide) (by decide), nI_add]
        exact t_min (a := 90) (by decide) (by omega)
      · rw [zs_eq rfl, y2, show nI t / 200 = nI (t / 200) from pk_div (d := 200) (by omega) (by decide) (by decide), nI_add]
        exact t_min (a := 90) (by decide) (by omega)
    · exact ⟨p, q, u, by rw [zs_ne (z6_ne (by omega))]; exact x0, by rw [zs_ne (z6_ne (by omega))]; exact x1, by rw [zs_ne (z6_ne (by omega))]; exact x2, by rw [zs_ne (z2_ne (by omega))]; exact y0, by rw [zs_ne (z2_ne (by omega))]; exact y1, by rw [zs_ej (by omega)]; exact y2, g0, g1, g2⟩
theorem q_wearS_6o {m : ZM} {w b n j : Nat} {t : Int32} (h : ¬ (4 * b ≤ j ∧ j < 4 * b + n)) : q_wearS m w b t n (6, w, j) = m (6, w, j) := by
  induction n with
  | zero => rfl
  | succ n ih => rw [q_wearS, q_wearBy, zs_ne (z6_ne (by omega)), ih (by omega)]
theorem q_wear7_o {m : ZM} {w b n j : Nat} {t : Int32} (h : ¬ (4 * b ≤ j ∧ j < 4 * b + n)) : q_wear7 m w b t n (2, 14 + 20 * w, 16) j = m (2, 14 + 20 * w, 16) j := by
  induction n with
  | zero => rfl
  | succ n ih => rw [q_wear7, zs_ej (by omega), ih (by omega)]
theorem q_blow_ne {m : ZM} {w b cn : Nat} {t : Int32} {k : ZN} (h4 : k ≠ (4, w, b)) (h0 : k ≠ (7, w, 3 * b)) (h1 : k ≠ (7, w, 3 * b + 1)) (h2 : k ≠ (7, w, 3 * b + 2)) : q_blow m w b cn t k = m k := by
  unfold q_blow
  rw [q_move_ne h1 h2, q_move_ne h0 h1, zs_ne h4]
theorem t_slime {m n : ZM} {w b st : Nat} (h1 : m (7, w, 3 * b + 2) 1 = nI st) (h2 : n (2, 19 + 20 * w, 24) (2 * (3 * b + 2) + 1) = nI st) (hs : st < 2 ^ 31) : q_slimeR m w b = nI (min st (max 1 (st / 10))) ∧ q_lost7 n w b = nI (min st (max 1 (st / 10))) := by
  have e1 : nI st / 10 = nI (st / 10) := pk_div (d := 10) hs (by decide) (by decide)
  have e2 : q_max 1 (nI (st / 10)) = nI (max 1 (st / 10)) := t_max (a := 1) (by decide) (by omega)
  refine ⟨?_, ?_⟩
  · unfold q_slimeR
    rw [h1, e1, e2, t_min hs (by omega)]
  · unfold q_lost7
    rw [h2]
    by_cases c : st = 0
    · rw [if_pos (by rw [c]; rfl), show min st (max 1 (st / 10)) = 0 by omega]
      exact nI_0.symm
    · rw [if_neg (nI_ne0 (by omega) hs), e1, e2, show min st (max 1 (st / 10)) = max 1 (st / 10) by omega]
set_option maxHeartbeats 8000000 in
theorem t_work {ma mb : ZM} {w b sc bu f c N z W t : Nat} (hb : b < 4) (ht : t ≤ 400) (hW : W ≤ 800) (hL : tL ma mb w f c) (hB : tB ma mb w b sc bu N) (hU : tU ma mb w bu) (z1 : ma (1, w, 0) 10 = nI z) (z2 : mb (13, w, 0) 17 = nI z) (hN : N + 300 < 2 ^ 30) {A B : ZM} (hA : A = q_work ma w b sc bu (nI W) (nI t)) (hBB : B = q_box7 mb w b sc bu (nI W) (nI t)) :
    ∃ f' c' z' N', tL A B w f' c' ∧ tB A B w b sc bu N' ∧ tU A B w bu ∧ A (1, w, 0) 10 = nI z' ∧ B (13, w, 0) 17 = nI z' ∧ z' + N' ≤ z + N + 300 ∧
      (∀ d sc' bu' N', d < 4 → d ≠ b → tB ma mb w d sc' bu' N' → tB A B w d sc' bu' N') ∧ (∀ u, u < 3 → u ≠ bu → tU ma mb w u → tU A B w u) ∧ ∀ o, (o < 12 ∨ 42 ≤ o) → o ≠ 3 * b → o ≠ 3 * b + 1 → o ≠ 3 * b + 2 → o ≠ 42 + bu → A (7, w, o) = ma (7, w, o) := by
  obtain ⟨b1, b2, b3, b4, b5, b6, ⟨Fd, d1, d2, d3⟩, ⟨h, e1, e2, e3, e4⟩, -, hS, lr, lt, gr, gt, sr, st, ⟨oL, oG, oS⟩, hs⟩ := hB
  have q6 : 6 * b = 2 * (3 * b) := by omega
  have hF : tF w b ma mb Fd lr lt (q_feed w (7, w, 3 * b) 30 ma (nI Fd) (nI h)) (q_eat w b 31 mb (nI Fd)) := t_feed hb 30 hL hL.2.2.2.2.1 d1 oL.1 oL.2.1 (by rw [q6]; exact oL.2.2.1) (by rw [q6]; exact oL.2.2.2) e4 e1 e2
  obtain ⟨G, eG⟩ : ∃ G, G = q_feed w (7, w, 3 * b) 30 ma (nI Fd) (nI h) := ⟨_, rfl⟩
  obtain ⟨E, eE⟩ : ∃ E, E = q_eat w b 31 mb (nI Fd) := ⟨_, rfl⟩
  rw [← eG, ← eE] at hF
  obtain ⟨f', c', lr', lt', h', i1, i2, i3, i4, i5, i6, i7, i8, i9, i10, i11, i12, i13⟩ := hF
  have gk : ∀ k : ZN, k.1 ≠ 7 → k.1 ≠ 8 → G.1 k = ma k := fun k k7 k8 => by rw [eG, q_feed_k rfl k7 k8]
  have ek : ∀ a len, a ≠ 17 → a ≠ 20 → a ≠ 19 → E (2, a + 20 * w, len) = mb (2, a + 20 * w, len) := fun a len h1 h2 h3 => by rw [eE, q_eat_ne (z2_ne (by omega)) (z2_ne (by omega)) (z2_ne (by omega)) (zk rfl)]
  obtain ⟨m1, em1⟩ : ∃ m1, m1 = zs G.1 (4, w, b) 7 (nI h') := ⟨_, rfl⟩
  have hS1 : tSt m1 E w b sc := tSt_same hS b3 (fun j _ _ => by rw [em1, zs_k (zk rfl), gk _ (zk rfl) (zk rfl)]) (fun j _ _ => by rw [ek 12 16 (by decide) (by decide) (by decide)]) (fun j _ _ => by rw [ek 13 16 (by decide) (by decide) (by decide)]) (fun j _ _ => by rw [ek 14 16 (by decide) (by decide) (by decide)])
  have oX1 : tX m1 E w b lr' lt' gr gt sr st := by
    refine ⟨⟨?_, ?_, ?_, ?_⟩, ?_, ?_⟩
    · rw [em1, zs_k (zk rfl)]; exact i2
    · rw [em1, zs_k (zk rfl)]; exact i3
    · rw [← q6]; exact i4
    · rw [← q6]; exact i5
    · exact tO_same oG (by rw [em1, zs_k (zk rfl), i11 _ (Or.inl (by omega)) (by omega)]) (i12 _ (by omega) (by omega)) (i12 _ (by omega) (by omega))
    · exact tO_same oS (by rw [em1, zs_k (zk rfl), i11 _ (Or.inl (by omega)) (by omega)]) (i12 _ (by omega) (by omega)) (i12 _ (by omega) (by omega))
  have h17 : m1 (4, w, b) 7 = nI h' := by rw [em1, zs_eq rfl]
  obtain ⟨F, lr2, lt2, gr2, gt2, sr2, st2, j1, j2, ⟨j3, j4, j5⟩, j6, j7⟩ := t_blow hS1 b3 ht h17 i9 i10 oX1 (by omega)
  obtain ⟨m2, em2⟩ : ∃ m2, m2 = q_blow m1 w b sc (nI t) := ⟨_, rfl⟩
  obtain ⟨n2, en2⟩ : ∃ n2, n2 = q_blow7 E w b sc h' (nI t) := ⟨_, rfl⟩
  rw [← em2, ← en2] at j3 j4 j5
  rw [← em2] at j6
  rw [← en2] at j7
  obtain ⟨LO, eLO⟩ : ∃ x, x = min st2 (max 1 (st2 / 10)) := ⟨_, rfl⟩
  obtain ⟨s1, s2⟩ := t_slime j5.2.1 j5.2.2.2 (by omega)
  rw [← eLO] at s1 s2
  obtain ⟨m3, em3⟩ : ∃ m3, m3 = zs (q_slimeM m2 w b) (1, w, 0) 10 (m2 (1, w, 0) 10 + q_slimeR m2 w b) := ⟨_, rfl⟩
  obtain ⟨n3, en3⟩ : ∃ n3, n3 = zs n2 (2, 19 + 20 * w, 24) (2 * (3 * b + 2) + 1) (n2 (2, 19 + 20 * w, 24) (2 * (3 * b + 2) + 1) - nI LO) := ⟨_, rfl⟩
  obtain ⟨n4, en4⟩ : ∃ n4, n4 = zs n3 (13, w, 0) 17 (n3 (13, w, 0) 17 + nI LO) := ⟨_, rfl⟩
  have m3o : ∀ k : ZN, k ≠ (1, w, 0) → k ≠ (7, w, 3 * b + 2) → m3 k = m2 k := fun k k1 k2 => by
    rw [em3, zs_ne k1]
    unfold q_slimeM
    rw [zs_ne k2]
  have n4o : ∀ k : ZN, k.1 ≠ 13 → k ≠ (2, 19 + 20 * w, 24) → n4 k = n2 k := fun k k1 k2 => by rw [en4, zs_k k1, en3, zs_ne k2]
  have n4j : ∀ j, j ≠ 2 * (3 * b + 2) + 1 → n4 (2, 19 + 20 * w, 24) j = n2 (2, 19 + 20 * w, 24) j := fun j hj => by rw [en4, zs_k (zk rfl), en3, zs_ej hj]
  have o3L : tO m3 n4 w (3 * b) lr2 lt2 := tO_same j3 (m3o _ (fun e => by injection e with e1; exact absurd e1 (by decide)) (z7_ne (by omega))) (n4j _ (by omega)) (n4j _ (by omega))
  have o3G : tO m3 n4 w (3 * b + 1) gr2 gt2 := tO_same j4 (m3o _ (fun e => by injection e with e1; exact absurd e1 (by decide)) (z7_ne (by omega))) (n4j _ (by omega)) (n4j _ (by omega))
  have o3S : tO m3 n4 w (3 * b + 2) sr2 (st2 - LO) := by
    refine ⟨?_, ?_, ?_, ?_⟩
    · rw [em3, zs_k (zk rfl)]
      unfold q_slimeM
      rw [zs_ej (by decide)]
      exact j5.1
    · rw [em3, zs_k (zk rfl)]
      unfold q_slimeM
      rw [zs_eq rfl, s1, j5.2.1, pk_sub (by omega)]
    · rw [n4j _ (by omega)]; exact j5.2.2.1
    · rw [en4, zs_k (zk rfl), en3, zs_eq rfl, j5.2.2.2, pk_sub (by omega)]
  obtain ⟨br, bt, u1, u2, u3, u4, u5⟩ := hU
  have bk : m3 (7, w, 42 + bu) = ma (7, w, 42 + bu) := by
    rw [m3o _ (fun e => by injection e with e1; exact absurd e1 (by decide)) (z7_ne (by omega)), em2, q_blow_ne (fun e => by injection e with e1; exact absurd e1 (by decide)) (z7_ne (by omega)) (z7_ne (by omega)) (z7_ne (by omega)), em1, zs_k (zk rfl), i11 _ (Or.inr (by omega)) (by omega)]
  have b21 : n4 (2, 21 + 20 * w, 6) = mb (2, 21 + 20 * w, 6) := by
    rw [n4o _ (zk rfl) (z2_ne (by omega)), en2, q_blow7_ne (z2_ne (by omega)) (z2_ne (by omega)), ek 21 6 (by decide) (by decide) (by decide)]
  rw [← bk] at u2 u3
  rw [← b21] at u4 u5
  obtain ⟨X, eX⟩ : ∃ x, x = min (W / 4) (6000 - (br + bt)) := ⟨_, rfl⟩
  obtain ⟨a, ea⟩ : ∃ a, a = min X (sr2 + (st2 - LO)) := ⟨_, rfl⟩
  have lT := tT_t (r := sr2) (t := st2 - LO) (a := a) (by omega)
  have lA := tT_a (r := sr2) (t := st2 - LO) (a := a)
  have lR := tT_r (r := sr2) (t := st2 - LO) (a := a) (by omega)
  have nv : ((7, w, 3 * b + 2) : ZN) ≠ (7, w, 42 + bu) := z7_ne (by omega)
  have nv2 : ((2, 19 + 20 * w, 24) : ZN) ≠ (2, 21 + 20 * w, 6) := z2_ne (by omega)
  obtain ⟨-, v1, v2, v3, v4⟩ := t_move (X := X) (a := a) nv o3S.1 o3S.2.1 u2 u3 (by omega) (by omega) ea
  obtain ⟨w1, w2, w3, w4⟩ := t_mvd (a := a) nv2 o3S.2.2.1 o3S.2.2.2 u4 u5 (by omega) (by omega)
  obtain ⟨m4, em4⟩ : ∃ m4, m4 = q_move m3 (7, w, 3 * b + 2) (7, w, 42 + bu) (nI X) := ⟨_, rfl⟩
  obtain ⟨n5, en5⟩ : ∃ n5, n5 = q_mv n4 (2, 19 + 20 * w, 24) (2 * (3 * b + 2)) (2, 21 + 20 * w, 6) (2 * bu) (nI a) := ⟨_, rfl⟩
  rw [← em4] at v1 v2 v3 v4
  rw [← en5] at w1 w2 w3 w4
  have eW4 : nI W / 4 = nI (W / 4) := pk_div (d := 4) (by omega) (by decide) (by decide)
  have e60 : (6000 : Int32) - nI (br + bt) = nI (6000 - (br + bt)) := pk_sub (a := 6000) u1
  have emn : q_min (nI (W / 4)) (nI (6000 - (br + bt))) = nI X := by rw [eX]; exact t_min (by omega) (by omega)
  have eg : q_grate m3 w b (7, w, 42 + bu) (nI W) = m4 := by
    unfold q_grate q_whole
    rw [u2, u3, nI_add, eW4, e60, emn, ← em4]
  have ep : nI a = q_part7 n4 w b bu (nI W) := by
    unfold q_part7 q_pair
    rw [o3S.2.2.1, o3S.2.2.2, u4, u5, nI_add, nI_add, eW4, e60, emn, t_min (by omega) (by omega), Nat.min_comm, ← ea]
  have eA : A = q_wearS m4 w b (nI t) sc := by
    rw [hA]
    unfold q_work
    dsimp only
    rw [d2, e3, ← eG, i7, ← em1, ← em2, ← em3, show 42 + bu % 3 = 42 + bu by omega, eg]
  have eB : B = q_wear7 n5 w b (nI t) sc := by
    rw [hBB]
    exact (q_box7_go (m := mb) (m1 := E) (m2 := n2) (m3 := n3) (m4 := n4) (m5 := n5) (lost := nI LO) (part := nI a) (hd := h') (by rw [d3]; exact eE) (by rw [i8]; exact nI_clamp (by omega)) en2 s2.symm en3 en4 ep en5 rfl).symm
  have m4o : ∀ k : ZN, k ≠ (4, w, b) → k ≠ (1, w, 0) → k ≠ (7, w, 3 * b) → k ≠ (7, w, 3 * b + 1) → k ≠ (7, w, 3 * b + 2) → k ≠ (7, w, 42 + bu) → m4 k = G.1 k := fun k k1 k2 k3 k4 k5 k6 => by
    rw [em4, q_move_ne k5 k6, m3o k k2 k5, em2, q_blow_ne k1 k3 k4 k5, em1, zs_ne k1]
  have n5o : ∀ a len, a ≠ 18 → a ≠ 19 → a ≠ 21 → n5 (2, a + 20 * w, len) = E (2, a + 20 * w, len) := fun a len h1 h2 h3 => by
    rw [en5, q_mv_ne (z2_ne (by omega)) (z2_ne (by omega)), n4o _ (zk rfl) (z2_ne (by omega)), en2, q_blow7_ne (z2_ne (by omega)) (z2_ne (by omega))]
  have Ak : ∀ k : ZN, k.1 ≠ 6 → A k = m4 k := fun k hk => by rw [eA, q_wearS_k hk]
  have Bk : ∀ k : ZN, k ≠ (2, 14 + 20 * w, 16) → B k = n5 k := fun k hk => by rw [eB, q_wear7_ne hk]
  have k14 : ∀ k : ZN, k.1 ≠ 2 → k ≠ (2, 14 + 20 * w, 16) := fun k hk e => hk (by rw [e])
  have x71 : ∀ o, ((7, w, o) : ZN) ≠ (1, w, 0) := fun o e => by injection e with e1; exact absurd e1 (by decide)
  have x74 : ∀ o, ((7, w, o) : ZN) ≠ (4, w, b) := fun o e => by injection e with e1; exact absurd e1 (by decide)
  have xk : ∀ (k : ZN) (k' : Nat) (a b : Nat), k.1 ≠ k' → k ≠ (k', a, b) := fun k k' a b hk e => hk (by rw [e])
  have A4 : ∀ j, j ≠ 8 → j ≠ 7 → A (4, w, b) j = ma (4, w, b) j := fun j j8 j7 => by rw [hA, q_work_4 j8 j7]
  have m2_1 : m2 (1, w, 0) 10 = nI z := by rw [em2, q_blow_k (zk rfl) (zk rfl), em1, zs_k (zk rfl), gk _ (zk rfl) (zk rfl)]; exact z1
  have n3_13 : n3 (13, w, 0) 17 = nI z := by
    rw [en3, zs_k (zk rfl), en2, q_blow7_ne (xk _ _ _ _ (zk rfl)) (xk _ _ _ _ (zk rfl)), eE, q_eat_13 (by decide)]
    exact z2
  have A7 : ∀ o, (o < 12 ∨ 42 ≤ o) → o ≠ 3 * b → o ≠ 3 * b + 1 → o ≠ 3 * b + 2 → o ≠ 42 + bu → A (7, w, o) = ma (7, w, o) := fun o o1 o2 o3 o4 o5 => by
    rw [Ak _ (zk rfl), m4o _ (x74 o) (x71 o) (z7_ne o2) (z7_ne o3) (z7_ne o4) (z7_ne o5), i11 _ o1 o2]
  have B19 : ∀ j, j < 6 * b ∨ 6 * b + 6 ≤ j → B (2, 19 + 20 * w, 24) j = mb (2, 19 + 20 * w, 24) j := fun j hj => by
    rw [Bk _ (z2_ne (by omega)), en5, q_mv_o (by omega) (fun q => absurd q.1 nv2), n4j _ (by omega), en2]
    unfold q_blow7
    rw [q_mv_o (by omega) (by omega), q_mv_o (by omega) (by omega), q_fs7_k (z2_ne (by omega)), i12 _ (by omega) (by omega)]
  refine ⟨f', c', z + LO, lr2 + lt2 + gr2 + gt2 + (sr2 - (a - tT sr2 (st2 - LO) a)) + (st2 - LO - tT sr2 (st2 - LO) a), ?_, ?_, ?_, ?_, ?_, by omega, ?_, ?_, A7⟩
  · refine tL_same i1 ?_ (fun o o1 o2 => ?_) (fun o => ?_) ?_ ?_
    · rw [Ak _ (zk rfl), m4o _ (xk _ _ _ _ (zk rfl)) (xk _ _ _ _ (zk rfl)) (xk _ _ _ _ (zk rfl)) (xk _ _ _ _ (zk rfl)) (xk _ _ _ _ (zk rfl)) (xk _ _ _ _ (zk rfl))]
    · rw [Ak _ (zk rfl), m4o _ (x74 o) (x71 o) (z7_ne (by omega)) (z7_ne (by omega)) (z7_ne (by omega)) (z7_ne (by omega))]
    · rw [Ak _ (zk rfl), m4o _ (xk _ _ _ _ (zk rfl)) (xk _ _ _ _ (zk rfl)) (xk _ _ _ _ (zk rfl)) (xk _ _ _ _ (zk rfl)) (xk _ _ _ _ (zk rfl)) (xk _ _ _ _ (zk rfl))]
    · rw [Bk _ (xk _ _ _ _ (zk rfl)), en5, q_mv_k (zk rfl) (zk rfl), en4, zs_ej (by decide), en3, zs_k (zk rfl), en2, q_blow7_ne (xk _ _ _ _ (zk rfl)) (xk _ _ _ _ (zk rfl))]
    · rw [Bk _ (z2_ne (by omega)), n5o 20 90 (by decide) (by decide) (by decide)]
  · refine ⟨by rw [A4 _ (by decide) (by decide)]; exact b1, ?_, b3, by rw [A4 _ (by decide) (by decide)]; exact b4, ?_, b6, ⟨Fd, d1, by rw [A4 _ (by decide) (by decide)]; exact d2, ?_⟩, ⟨h', i9, i10, ?_, ?_⟩, ⟨F, j1, ?_, ?_⟩, ?_, lr2, lt2, gr2, gt2, _, _, ⟨?_, ?_, ?_⟩, rfl⟩
    · rw [Bk _ (z2_ne (by omega)), n5o 11 4 (by decide) (by decide) (by decide), ek 11 4 (by decide) (by decide) (by decide)]; exact b2
    · rw [Bk _ (z2_ne (by omega)), n5o 16 4 (by decide) (by decide) (by decide), ek 16 4 (by decide) (by decide) (by decide)]; exact b5
    · rw [Bk _ (z2_ne (by omega)), n5o 15 4 (by decide) (by decide) (by decide), ek 15 4 (by decide) (by decide) (by decide)]; exact d3
    · rw [Ak _ (zk rfl), em4, q_move_k (zk rfl) (zk rfl), m3o _ (xk _ _ _ _ (zk rfl)) (xk _ _ _ _ (zk rfl)), em2, q_blow_4 (by decide)]; exact h17
    · rw [Bk _ (z2_ne (by omega)), n5o 17 4 (by decide) (by decide) (by decide)]; exact i8
    · rw [Ak _ (zk rfl), em4, q_move_k (zk rfl) (zk rfl), m3o _ (xk _ _ _ _ (zk rfl)) (xk _ _ _ _ (zk rfl))]; exact j6
    · rw [Bk _ (z2_ne (by omega)), en5, q_mv_ne (z2_ne (by omega)) (z2_ne (by omega)), n4o _ (zk rfl) (z2_ne (by omega))]; exact j7
    · rw [eA, eB]
      refine t_wear (tSt_same hS1 b3 (fun j _ _ => ?_) (fun j _ _ => ?_) (fun j _ _ => ?_) (fun j _ _ => ?_)) ht sc (Nat.le_refl _)
      · rw [m4o _ (xk _ _ _ _ (zk rfl)) (xk _ _ _ _ (zk rfl)) (xk _ _ _ _ (zk rfl)) (xk _ _ _ _ (zk rfl)) (xk _ _ _ _ (zk rfl)) (xk _ _ _ _ (zk rfl)), em1, zs_k (zk rfl)]
      · rw [n5o 12 16 (by decide) (by decide) (by decide)]
      · rw [n5o 13 16 (by decide) (by decide) (by decide)]
      · rw [n5o 14 16 (by decide) (by decide) (by decide)]
    · exact tO_same o3L (by rw [Ak _ (zk rfl), em4, q_move_ne (z7_ne (by omega)) (z7_ne (by omega))]) (by rw [Bk _ (z2_ne (by omega)), en5, q_mv_o (by omega) (fun q => absurd q.1 nv2)]) (by rw [Bk _ (z2_ne (by omega)), en5, q_mv_o (by omega) (fun q => absurd q.1 nv2)])
    · exact tO_same o3G (by rw [Ak _ (zk rfl), em4, q_move_ne (z7_ne (by omega)) (z7_ne (by omega))]) (by rw [Bk _ (z2_ne (by omega)), en5, q_mv_o (by omega) (fun q => absurd q.1 nv2)]) (by rw [Bk _ (z2_ne (by omega)), en5, q_mv_o (by omega) (fun q => absurd q.1 nv2)])
    · exact ⟨by rw [Ak _ (zk rfl)]; exact v1, by rw [Ak _ (zk rfl)]; exact v2, by rw [Bk _ (z2_ne (by omega))]; exact w1, by rw [Bk _ (z2_ne (by omega))]; exact w2⟩
  · exact ⟨br + (a - tT sr2 (st2 - LO) a), bt + tT sr2 (st2 - LO) a, by omega, by rw [Ak _ (zk rfl)]; exact v3, by rw [Ak _ (zk rfl)]; exact v4, by rw [Bk _ (z2_ne (by omega))]; exact w3, by rw [Bk _ (z2_ne (by omega))]; exact w4⟩
  · rw [Ak _ (zk rfl), em4, q_move_k (zk rfl) (zk rfl), em3, zs_eq rfl, m2_1, s1, nI_add]
  · rw [Bk _ (xk _ _ _ _ (zk rfl)), en5, q_mv_k (zk rfl) (zk rfl), en4, zs_eq rfl, n3_13, nI_add]
  · intro d sc' bu' N' hd hdb hh
    refine tB_same hh ?_ (fun j g1 g2 => ?_) (fun o g1 g2 => A7 _ (Or.inl (by omega)) (by omega) (by omega) (by omega) (by omega)) ?_ ?_ ?_ ?_ ?_ (fun j g1 g2 => ?_) (fun j g1 g2 => ?_) (fun j g1 g2 => ?_) (fun j g1 g2 => B19 _ (by omega))
    · rw [Ak _ (zk rfl), m4o _ (z4b_ne hdb) (xk _ _ _ _ (zk rfl)) (xk _ _ _ _ (zk rfl)) (xk _ _ _ _ (zk rfl)) (xk _ _ _ _ (zk rfl)) (xk _ _ _ _ (zk rfl)), gk _ (zk rfl) (zk rfl)]
    · rw [eA, q_wearS_6o (by omega), m4o _ (xk _ _ _ _ (zk rfl)) (xk _ _ _ _ (zk rfl)) (xk _ _ _ _ (zk rfl)) (xk _ _ _ _ (zk rfl)) (xk _ _ _ _ (zk rfl)) (xk _ _ _ _ (zk rfl)), gk _ (zk rfl) (zk rfl)]
    · rw [Bk _ (z2_ne (by omega)), n5o 11 4 (by decide) (by decide) (by decide), ek 11 4 (by decide) (by decide) (by decide)]
    · rw [Bk _ (z2_ne (by omega)), n5o 16 4 (by decide) (by decide) (by decide), ek 16 4 (by decide) (by decide) (by decide)]
    · rw [Bk _ (z2_ne (by omega)), n5o 15 4 (by decide) (by decide) (by decide), ek 15 4 (by decide) (by decide) (by decide)]
    · rw [Bk _ (z2_ne (by omega)), n5o 17 4 (by decide) (by decide) (by decide), i13 _ hdb]
    · rw [Bk _ (z2_ne (by omega)), en5, q_mv_ne (z2_ne (by omega)) (z2_ne (by omega)), n4o _ (zk rfl) (z2_ne (by omega)), en2]
      unfold q_blow7
      rw [q_mv_ne (z2_ne (by omega)) (z2_ne (by omega)), q_mv_ne (z2_ne (by omega)) (z2_ne (by omega)), t_fs7_o hdb, ek 18 4 (by decide) (by decide) (by decide)]
    · rw [Bk _ (z2_ne (by omega)), n5o 12 16 (by decide) (by decide) (by decide), ek 12 16 (by decide) (by decide) (by decide)]
    · rw [Bk _ (z2_ne (by omega)), n5o 13 16 (by decide) (by decide) (by decide), ek 13 16 (by decide) (by decide) (by decide)]
    · rw [eB, q_wear7_o (by omega), n5o 14 16 (by decide) (by decide) (by decide), ek 14 16 (by decide) (by decide) (by decide)]
  · intro u hu hub hh
    have e21 : ∀ j, j ≠ 2 * bu → j ≠ 2 * bu + 1 → B (2, 21 + 20 * w, 6) j = mb (2, 21 + 20 * w, 6) j := fun j j1 j2 => by rw [Bk _ (z2_ne (by omega)), en5, q_mv_o (fun q => absurd q.1.symm nv2) (by omega), b21]
    exact tU_same hh (A7 _ (Or.inr (by omega)) (by omega) (by omega) (by omega) (by omega)) (e21 _ (by omega) (by omega)) (e21 _ (by omega) (by omega))
