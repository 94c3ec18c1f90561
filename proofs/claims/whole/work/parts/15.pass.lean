/-! an hour of the reference's state -/
def hok (x : Int32) : Prop := ∃ h, x = nI h ∧ 1 ≤ h ∧ h ≤ 9
def gS (m : ZM) (w bc : Nat) (sc go : Nat → Nat) (hq : Nat) : Prop :=
  m (13, w, 0) 4 = nI bc ∧ bc ≤ 4 ∧ (∀ b, b < 4 → m (2, 11 + 20 * w, 4) b = nI (sc b) ∧ sc b ≤ 4 ∧ m (2, 16 + 20 * w, 4) b = nI (go b) ∧ go b < 3) ∧ (∀ b, b < bc → hok (m (2, 17 + 20 * w, 4) b)) ∧
  (∃ ln, m (13, w, 0) 14 = nI ln ∧ ln ≤ 30 ∧ ∀ j, j < ln → hok (m (2, 20 + 20 * w, 90) (3 * j + 2))) ∧ m (13, w, 0) 0 = nI hq ∧ hq < 2 ^ 30 ∧ ¬ q_load7 m w sc bc = 0
theorem bx_sum_c {f g : Nat → Int32} {n : Nat} (h : ∀ k, k < n → f k = g k) : bx_sum f n = bx_sum g n := by
  induction n with
  | zero => rfl
  | succ n ih => rw [bx_sum, bx_sum, ih (fun k hk => h k (by omega)), h n (by omega)]
theorem q_load7_c {m m1 : ZM} {w n : Nat} {sc : Nat → Nat} (h1 : m1 (2, 12 + 20 * w, 16) = m (2, 12 + 20 * w, 16)) (h2 : m1 (2, 13 + 20 * w, 16) = m (2, 13 + 20 * w, 16)) : q_load7 m1 w sc n = q_load7 m w sc n := by
  induction n with
  | zero => rfl
  | succ n ih => rw [q_load7, q_load7, ih, q_row7, q_row7, h1, h2]
def q_lost7 (m : ZM) (w b : Nat) : Int32 := if m (2, 19 + 20 * w, 24) (2 * (3 * b + 2) + 1) = 0 then 0 else q_max 1 (m (2, 19 + 20 * w, 24) (2 * (3 * b + 2) + 1) / 10)
def q_part7 (m : ZM) (w b g : Nat) (x : Int32) : Int32 := q_min (q_pair m (2, 19 + 20 * w, 24) (2 * (3 * b + 2))) (q_min (x / 4) (6000 - q_pair m (2, 21 + 20 * w, 6) (2 * g)))
def q_wear7 (m : ZM) (w b : Nat) (t : Int32) : Nat → ZM
  | 0 => m
  | k + 1 => zs (q_wear7 m w b t k) (2, 14 + 20 * w, 16) (4 * b + k) (q_min 90 (q_wear7 m w b t k (2, 14 + 20 * w, 16) (4 * b + k) + t / 200))
theorem q_wear7_ne {m : ZM} {w b n : Nat} {t : Int32} {k : ZN} (h : k ≠ (2, 14 + 20 * w, 16)) : q_wear7 m w b t n k = m k := by
  induction n with
  | zero => rfl
  | succ n ih => rw [q_wear7, zs_ne h, ih]
def q_box7 (m : ZM) (w b cn g : Nat) (x t : Int32) : ZM :=
  let m1 := q_eat w b 31 m (m (2, 15 + 20 * w, 4) b)
  let m2 := q_blow7 m1 w b cn (m1 (2, 17 + 20 * w, 4) b).toNatClampNeg t
  let m3 := zs m2 (2, 19 + 20 * w, 24) (2 * (3 * b + 2) + 1) (m2 (2, 19 + 20 * w, 24) (2 * (3 * b + 2) + 1) - q_lost7 m2 w b)
  let m4 := zs m3 (13, w, 0) 17 (m3 (13, w, 0) 17 + q_lost7 m2 w b)
  let m5 := q_mv m4 (2, 19 + 20 * w, 24) (2 * (3 * b + 2)) (2, 21 + 20 * w, 6) (2 * g) (q_part7 m4 w b g x)
  q_wear7 m5 w b t cn
theorem q_box7_go {m m1 m2 m3 m4 m5 m6 : ZM} {w b cn g hd : Nat} {x t lost part : Int32} (e1 : m1 = q_eat w b 31 m (m (2, 15 + 20 * w, 4) b)) (hh : (m1 (2, 17 + 20 * w, 4) b).toNatClampNeg = hd) (e2 : m2 = q_blow7 m1 w b cn hd t) (el : lost = q_lost7 m2 w b) (e3 : m3 = zs m2 (2, 19 + 20 * w, 24) (2 * (3 * b + 2) + 1) (m2 (2, 19 + 20 * w, 24) (2 * (3 * b + 2) + 1) - lost))
    (e4 : m4 = zs m3 (13, w, 0) 17 (m3 (13, w, 0) 17 + lost)) (ep : part = q_part7 m4 w b g x) (e5 : m5 = q_mv m4 (2, 19 + 20 * w, 24) (2 * (3 * b + 2)) (2, 21 + 20 * w, 6) (2 * g) part) (e6 : m6 = q_wear7 m5 w b t cn) : m6 = q_box7 m w b cn g x t := by
  subst e6 e5 ep e4 e3 el e2 hh e1
  rfl
def q_boxes7 (m : ZM) (w : Nat) (sc go : Nat → Nat) (x t : Int32) : Nat → ZM
  | 0 => m
  | k + 1 => q_box7 (q_boxes7 m w sc go x t k) w k (sc k) (go k) x t
def q_pond7 (m : ZM) (w hq : Nat) : ZM := zs m (13, w, 0) 1 (q_min 20000 (m (13, w, 0) 1 + m (2, 10 + 20 * w, 24) (hq % 24)))
def q_water7 (m : ZM) (w hq : Nat) : Int32 := q_min (40 * q_pond7 m w hq (13, w, 0) 2) (q_pond7 m w hq (13, w, 0) 1)
def q_take7 (m : ZM) (w hq : Nat) : ZM := zs (q_pond7 m w hq) (13, w, 0) 1 (q_pond7 m w hq (13, w, 0) 1 - q_water7 m w hq)
def q_turns7 (m : ZM) (w bc : Nat) (sc : Nat → Nat) (hq : Nat) : Int32 := 10 * q_water7 m w hq / q_load7 (q_take7 m w hq) w sc bc
def q_pass7 (m : ZM) (w bc : Nat) (sc go : Nat → Nat) (hq : Nat) : ZM :=
  let m1 := q_boxes7 (q_take7 m w hq) w sc go (q_water7 m w hq) (q_turns7 m w bc sc hq) bc
  zs m1 (13, w, 0) 0 (m1 (13, w, 0) 0 + 1)
theorem gS_pond {m : ZM} {w bc hq : Nat} {sc go : Nat → Nat} {x : Int32} (G : gS m w bc sc go hq) : gS (zs m (13, w, 0) 1 x) w bc sc go hq := by
  obtain ⟨h1, h2, h3, h4, ⟨ln, h5, h6, h7⟩, h8, h9, h10⟩ := G
  refine ⟨by rw [zs_ej (by decide)]; exact h1, h2, fun b hb => by rw [zs_k (zk rfl), zs_k (zk rfl)]; exact h3 b hb, fun b hb => by rw [zs_k (zk rfl)]; exact h4 b hb, ⟨ln, by rw [zs_ej (by decide)]; exact h5, h6, fun j hj => by rw [zs_k (zk rfl)]; exact h7 j hj⟩, by rw [zs_ej (by decide)]; exact h8, h9, ?_⟩
  rw [q_load7_c (zs_k (zk rfl)) (zs_k (zk rfl))]
  exact h10
theorem q_blow7_ne {m : ZM} {w b cn hd : Nat} {t : Int32} {k : ZN} (h1 : k ≠ (2, 18 + 20 * w, 4)) (h2 : k ≠ (2, 19 + 20 * w, 24)) : q_blow7 m w b cn hd t k = m k := by
  unfold q_blow7
  rw [q_mv_ne h2 h2, q_mv_ne h2 h2, q_fs7_k h1]
theorem q_shift_at {w n j : Nat} {m : ZM} (h : n ≤ j) : q_shift w m n (2, 20 + 20 * w, 90) j = m (2, 20 + 20 * w, 90) j := by
  induction n with
  | zero => rfl
  | succ n ih => rw [q_shift, zs_ej (by omega), ih (by omega)]
theorem q_shift_lo {w n j : Nat} {m : ZM} (h : j < n) : q_shift w m n (2, 20 + 20 * w, 90) j = m (2, 20 + 20 * w, 90) (j + 3) := by
  induction n with
  | zero => exact absurd h (Nat.not_lt_zero j)
  | succ n ih =>
    by_cases e : j = n
    · subst e
      rw [q_shift, zs_eq rfl, q_shift_at (by omega)]
    · rw [q_shift, zs_ej e, ih (by omega)]
theorem q_mv_out {m : ZM} {n v : ZN} {i j a : Nat} {x : Int32} (h : n ≠ v) (h1 : a ≠ i) (h2 : a ≠ i + 1) : q_mv m n i v j x n a = m n a := by
  unfold q_mv
  rw [zs_ne h, zs_ne h, zs_ej h2, zs_ej h1]
theorem q_eat_ne {w b n : Nat} {k : ZN} (h1 : k ≠ (2, 17 + 20 * w, 4)) (h2 : k ≠ (2, 20 + 20 * w, 90)) (h3 : k ≠ (2, 19 + 20 * w, 24)) (h4 : k.1 ≠ 13) : ∀ {m : ZM} {a : Int32}, q_eat w b n m a k = m k := by
  induction n with
  | zero => intro m a; rfl
  | succ n ih =>
    intro m a
    rw [q_eat]
    split
    · rfl
    split
    · rfl
    refine (ih).trans ?_
    have e : ∀ u : ZM, u = q_mv (zs m (2, 17 + 20 * w, 4) b (m (2, 20 + 20 * w, 90) 2)) (2, 20 + 20 * w, 90) 0 (2, 19 + 20 * w, 24) (6 * b) (q_min a (q_pair m (2, 20 + 20 * w, 90) 0)) → u k = m k := by
      intro u hu
      rw [hu, q_mv_ne h2 h3, zs_ne h1]
    split
    · exact e _ rfl
    · unfold q_drop7
      rw [q_shift_ne h2, zs_k h4]
      exact e _ rfl
theorem q_eat_13 {w b n j : Nat} (h : j ≠ 14) : ∀ {m : ZM} {a : Int32}, q_eat w b n m a (13, w, 0) j = m (13, w, 0) j := by
  induction n with
  | zero => intro m a; rfl
  | succ n ih =>
    intro m a
    rw [q_eat]
    split
    · rfl
    split
    · rfl
    refine (ih).trans ?_
    split
    · rw [q_mv_k (zk rfl) (zk rfl), zs_k (zk rfl)]
    · unfold q_drop7
      rw [q_shift_k (zk rfl), zs_ej h, q_mv_k (zk rfl) (zk rfl), zs_k (zk rfl)]
/-- hardnesses behind eating -/
theorem q_eat_h {w b n bc : Nat} : ∀ {m : ZM} {a : Int32} {ln : Nat}, m (13, w, 0) 14 = nI ln → ln ≤ 30 → (∀ j, j < ln → hok (m (2, 20 + 20 * w, 90) (3 * j + 2))) → (∀ c, c < bc → hok (m (2, 17 + 20 * w, 4) c)) →
    (∀ c, c < bc → hok (q_eat w b n m a (2, 17 + 20 * w, 4) c)) ∧ ∃ ln, q_eat w b n m a (13, w, 0) 14 = nI ln ∧ ln ≤ 30 ∧ ∀ j, j < ln → hok (q_eat w b n m a (2, 20 + 20 * w, 90) (3 * j + 2)) := by
  induction n with
  | zero => intro m a ln h1 h2 h3 h4; exact ⟨h4, ln, h1, h2, h3⟩
  | succ n ih =>
    intro m a ln h1 h2 h3 h4
    rw [q_eat]
    split
    · exact ⟨h4, ln, h1, h2, h3⟩
    split
    · exact ⟨h4, ln, h1, h2, h3⟩
    next c1 c2 =>
    have l1 : 1 ≤ ln := by
      rcases Nat.eq_zero_or_pos ln with q | q
      · exact absurd (show m (13, w, 0) 14 ≤ 0 by rw [h1, q]; exact Int32.le_refl _) c2
      · exact q
    have f1 : ∀ u : ZM, u = q_mv (zs m (2, 17 + 20 * w, 4) b (m (2, 20 + 20 * w, 90) 2)) (2, 20 + 20 * w, 90) 0 (2, 19 + 20 * w, 24) (6 * b) (q_min a (q_pair m (2, 20 + 20 * w, 90) 0)) → u (13, w, 0) 14 = nI ln ∧ (∀ j, j < ln → hok (u (2, 20 + 20 * w, 90) (3 * j + 2))) ∧ ∀ c, c < bc → hok (u (2, 17 + 20 * w, 4) c) := by
      intro u hu
      refine ⟨by rw [hu, q_mv_k (zk rfl) (zk rfl), zs_k (zk rfl)]; exact h1, fun j hj => ?_, fun c hc => ?_⟩
      · rw [hu, q_mv_out (z2_ne (by omega)) (by omega) (by omega), zs_ne (z2_ne (by omega))]
        exact h3 j hj
      · rw [hu, q_mv_ne (z2_ne (by omega)) (z2_ne (by omega))]
        by_cases e : c = b
        · rw [zs_eq e]; exact h3 0 l1
        · rw [zs_ej e]; exact h4 c hc
    split
    · obtain ⟨g1, g2, g3⟩ := f1 _ rfl
      exact ih g1 h2 g2 g3
    · obtain ⟨g1, g2, g3⟩ := f1 _ rfl
      rw [show (m (13, w, 0) 14).toNatClampNeg = ln by rw [h1]; exact nI_clamp (by omega)]
      refine ih (q_drop7_n g1 l1) (by omega) (fun j hj => ?_) (fun c hc => ?_)
      · unfold q_drop7
        rw [q_shift_lo (by omega), zs_k (zk rfl), show 3 * j + 2 + 3 = 3 * (j + 1) + 2 by omega]
        exact g2 (j + 1) (by omega)
      · unfold q_drop7
        rw [q_shift_ne (z2_ne (by omega)), zs_k (zk rfl)]
        exact g3 c hc
theorem gS_eat {m : ZM} {w b bc hq n : Nat} {sc go : Nat → Nat} {a : Int32} (G : gS m w bc sc go hq) (hb : b < 4) : gS (q_eat w b n m a) w bc sc go hq := by
  obtain ⟨h1, h2, h3, h4, ⟨ln, h5, h6, h7⟩, h8, h9, h10⟩ := G
  obtain ⟨g1, g2⟩ := q_eat_h (b := b) (n := n) (a := a) h5 h6 h7 h4
  refine ⟨by rw [q_eat_13 (by decide)]; exact h1, h2, fun c hc => ?_, g1, g2, by rw [q_eat_13 (by decide)]; exact h8, h9, ?_⟩
  · rw [q_eat_ne (z2_ne (by omega)) (z2_ne (by omega)) (z2_ne (by omega)) (zk rfl), q_eat_ne (z2_ne (by omega)) (z2_ne (by omega)) (z2_ne (by omega)) (zk rfl)]
    exact h3 c hc
  · rw [q_load7_c (q_eat_ne (z2_ne (by omega)) (z2_ne (by omega)) (z2_ne (by omega)) (zk rfl)) (q_eat_ne (z2_ne (by omega)) (z2_ne (by omega)) (z2_ne (by omega)) (zk rfl))]
    exact h10
/-- a memory that agrees in what gS looks at -/
theorem gS_same {m m1 : ZM} {w bc hq : Nat} {sc go : Nat → Nat} (G : gS m w bc sc go hq) (a1 : ∀ j, j ≠ 17 → m1 (13, w, 0) j = m (13, w, 0) j) (a2 : m1 (2, 11 + 20 * w, 4) = m (2, 11 + 20 * w, 4)) (a3 : m1 (2, 16 + 20 * w, 4) = m (2, 16 + 20 * w, 4)) (a4 : m1 (2, 17 + 20 * w, 4) = m (2, 17 + 20 * w, 4)) (a5 : m1 (2, 20 + 20 * w, 90) = m (2, 20 + 20 * w, 90)) (a6 : m1 (2, 12 + 20 * w, 16) = m (2, 12 + 20 * w, 16)) (a7 : m1 (2, 13 + 20 * w, 16) = m (2, 13 + 20 * w, 16)) : gS m1 w bc sc go hq := by
  obtain ⟨h1, h2, h3, h4, ⟨ln, h5, h6, h7⟩, h8, h9, h10⟩ := G
  refine ⟨by rw [a1 _ (by decide)]; exact h1, h2, by rw [a2, a3]; exact h3, by rw [a4]; exact h4, ⟨ln, by rw [a1 _ (by decide)]; exact h5, h6, by rw [a5]; exact h7⟩, by rw [a1 _ (by decide)]; exact h8, h9, by rw [q_load7_c a6 a7]; exact h10⟩
theorem q_box7_ne {m : ZM} {w b cn g : Nat} {x t : Int32} {k : ZN} (h1 : k ≠ (2, 18 + 20 * w, 4)) (h2 : k ≠ (2, 19 + 20 * w, 24)) (h3 : k ≠ (2, 21 + 20 * w, 6)) (h4 : k ≠ (2, 14 + 20 * w, 16)) (h5 : k.1 ≠ 13) : q_box7 m w b cn g x t k = q_eat w b 31 m (m (2, 15 + 20 * w, 4) b) k := by
  unfold q_box7
  rw [q_wear7_ne h4, q_mv_ne h2 h3, zs_k h5, zs_ne h2, q_blow7_ne h1 h2]
theorem gS_box {m : ZM} {w b cn g bc hq : Nat} {sc go : Nat → Nat} {x t : Int32} (G : gS m w bc sc go hq) (hb : b < 4) : gS (q_box7 m w b cn g x t) w bc sc go hq := by
  have z : ∀ a len : Nat, a ≠ 18 → a ≠ 19 → a ≠ 21 → a ≠ 14 → q_box7 m w b cn g x t (2, a + 20 * w, len) = q_eat w b 31 m (m (2, 15 + 20 * w, 4) b) (2, a + 20 * w, len) := fun a len e1 e2 e3 e4 =>
    q_box7_ne (z2_ne (by omega)) (z2_ne (by omega)) (z2_ne (by omega)) (z2_ne (by omega)) (zk rfl)
  refine gS_same (gS_eat (n := 31) (a := m (2, 15 + 20 * w, 4) b) G hb) (fun j hj => ?_) (z 11 4 (by decide) (by decide) (by decide) (by decide)) (z 16 4 (by decide) (by decide) (by decide) (by decide)) (z 17 4 (by decide) (by decide) (by decide) (by decide)) (z 20 90 (by decide) (by decide) (by decide) (by decide)) (z 12 16 (by decide) (by decide) (by decide) (by decide)) (z 13 16 (by decide) (by decide) (by decide) (by decide))
  unfold q_box7
  rw [q_wear7_ne (fun e => by injection e with e1; exact absurd e1 (by decide)), q_mv_k (zk rfl) (zk rfl), zs_ej hj, zs_k (zk rfl), q_blow7_ne (fun e => by injection e with e1; exact absurd e1 (by decide)) (fun e => by injection e with e1; exact absurd e1 (by decide))]
theorem gS_boxes {m : ZM} {w bc hq k : Nat} {sc go : Nat → Nat} {x t : Int32} (G : gS m w bc sc go hq) (hk : k ≤ 4) : gS (q_boxes7 m w sc go x t k) w bc sc go hq := by
  induction k with
  | zero => exact G
  | succ k ih => exact gS_box (ih (by omega)) (by omega)
theorem gS_hour {m : ZM} {w bc hq : Nat} {sc go : Nat → Nat} (G : gS m w bc sc go hq) (h : hq + 1 < 2 ^ 30) : gS (q_pass7 m w bc sc go hq) w bc sc go (hq + 1) := by
  obtain ⟨h1, h2, h3, h4, ⟨ln, h5, h6, h7⟩, h8, h9, h10⟩ := gS_boxes (x := q_water7 m w hq) (t := q_turns7 m w bc sc hq) (k := bc) (show gS (q_take7 m w hq) w bc sc go hq from gS_pond (gS_pond G)) G.2.1
  unfold q_pass7
  refine ⟨by rw [zs_ej (by decide)]; exact h1, h2, fun b hb => by rw [zs_k (zk rfl), zs_k (zk rfl)]; exact h3 b hb, fun b hb => by rw [zs_k (zk rfl)]; exact h4 b hb, ⟨ln, by rw [zs_ej (by decide)]; exact h5, h6, fun j hj => by rw [zs_k (zk rfl)]; exact h7 j hj⟩, ?_, h, ?_⟩
  · rw [zs_eq rfl]
    exact (congrArg (fun z => z + 1) h8).trans (nI_1 hq)
  · rw [q_load7_c (zs_k (zk rfl)) (zs_k (zk rfl))]
    exact h10

set_option maxHeartbeats 4000000 in
set_option maxRecDepth 100000 in
theorem c_X7_pass (l : Launch) (D : va_G) (cy : Nat → ClassId) (ad : ZN → Nat) (m : ZM) (sz : Nat) {L : List ZN} (hL : zL L) {w : Nat} (gw : w < 2) {bc : Nat} {sc go : Nat → Nat} {hq : Nat} (G : gS m w bc sc go hq) : Met l yX7_pass (zws yX7_pass cX7_pass 8 (some .int)) ({ frames := 3, cells := 0, slots := 0, locals := 72 } : Room) (zPc D cy ad L m sz [.ref (ad (13, w, 0))]) (zQi (fun r m1 => r = q_turns7 m w bc sc hq ∧ m1 = q_pass7 m w bc sc go hq) D cy ad L sz) 0 0 (zA ad L sz) := by
  refine zopen (Qc := fun sz => zQi (fun r m1 => r = q_turns7 m w bc sc hq ∧ m1 = q_pass7 m w bc sc go hq) D cy ad L sz) RX7 (plainFor_of_name (by decide)) rfl (Nat.le_of_ble_eq_true rfl) ?_
  intro p e s mi below meth c ls C hr hlocks hml hl H locs hw
  obtain ⟨hx, hb, hts, hown, hK, hNw⟩ := id C
  have hl : lv_has ls 8 [(0, .ref (ad (13, w, 0)))] := hl
  obtain ⟨hbc, lbc, hbx, hhd, ⟨ln, hln, lln, hlt⟩, hhq, lhq, hld⟩ := id G
  refine lv_aload_n hx hb dX7_pass_0 rfl (lv_at hl 0 rfl) ?_
  refine lv_sipush (v := 20000) hx hb dX7_pass_1 (by decide) ?_
  refine lv_aload_n hx hb dX7_pass_4 rfl (lv_at hl 0 rfl) ?_
  refine zg_X7_9 C hw (zn13 hL gw) dX7_pass_5 ?_
  refine lv_aload_n hx hb dX7_pass_8 rfl (lv_at hl 0 rfl) ?_
  refine zg_X7_18 C hw (zn13 hL gw) dX7_pass_9 ?_
  refine lv_aload_n hx hb dX7_pass_12 rfl (lv_at hl 0 rfl) ?_
  refine zg_X7_61 C hw (zn13 hL gw) dX7_pass_13 ?_
  refine ztop hhq ?_
  refine lv_bipush (v := 24) hx hb dX7_pass_16 (by decide) ?_
  refine lv_irem hx hb dX7_pass_18 (by decide) ?_
  refine zaldN C hw (zq10 hL gw) (hq % 24) (Nat.mod_lt _ (by decide)) (pk_rem (by omega) (by decide) (by decide)) (by decide) dX7_pass_19 ?_
  refine lv_iadd hx hb dX7_pass_20 ?_
  refine va_mmin hx hb (hml.trans hl.1.symm) hown (hts _ zL_X7_81) (hts _ zT_min) (hts _ zN_Math) (hts _ zO_min) (Nat.le_of_ble_eq_true rfl) (Nat.le_of_ble_eq_true rfl) (Nat.zero_le _) (Nat.zero_le _) dX7_pass_21 ?_
  refine zp_X7_9 C hw (zn13 hL gw) dX7_pass_24 (fun H locs m1 em1 hw => ?_)
  refine lv_bipush (v := 40) hx hb dX7_pass_27 (by decide) ?_
  refine lv_aload_n hx hb dX7_pass_29 rfl (lv_at hl 0 rfl) ?_
  refine zg_X7_15 C hw (zn13 hL gw) dX7_pass_30 ?_
  refine lv_imul hx hb dX7_pass_33 ?_
  refine lv_aload_n hx hb dX7_pass_34 rfl (lv_at hl 0 rfl) ?_
  refine zg_X7_9 C hw (zn13 hL gw) dX7_pass_35 ?_
  refine va_mmin hx hb (hml.trans hl.1.symm) hown (hts _ zL_X7_81) (hts _ zT_min) (hts _ zN_Math) (hts _ zO_min) (Nat.le_of_ble_eq_true rfl) (Nat.le_of_ble_eq_true rfl) (Nat.zero_le _) (Nat.zero_le _) dX7_pass_38 ?_
  refine lv_topi (fun x2 ex2 => ?_)
  refine lv_istore_n (lv' := [(1, .int x2), (0, .ref (ad (13, w, 0)))]) hx hb dX7_pass_41 rfl hl (by decide) rfl (fun ls hl => ?_)
  refine lv_aload_n hx hb dX7_pass_42 rfl (lv_at hl 1 rfl) ?_
  refine lv_dup hx hb dX7_pass_43 rfl ?_
  refine zg_X7_9 C hw (zn13 hL gw) dX7_pass_44 ?_
  refine lv_iload_n hx hb dX7_pass_47 rfl (lv_at hl 0 rfl) ?_
  refine lv_isub hx hb dX7_pass_48 ?_
  refine zp_X7_9 C hw (zn13 hL gw) dX7_pass_49 (fun H locs m3 em3 hw => ?_)
  have hw1 : q_load7 m3 w sc bc = q_load7 m w sc bc := q_load7_c (by rw [em3, zs_k (zk rfl), em1, zs_k (zk rfl)]) (by rw [em3, zs_k (zk rfl), em1, zs_k (zk rfl)])
  have G1 : gS m3 w bc sc go hq := by rw [em3, em1]; exact gS_pond (gS_pond G)
  obtain ⟨hbc1, lbc1, hbx1, hhd1, ⟨ln1, hln1, lln1, hlt1⟩, hhq1, lhq1, hld1⟩ := id G1
  refine lv_bipush (v := 10) hx hb dX7_pass_52 (by decide) ?_
  refine lv_iload_n hx hb dX7_pass_54 rfl (lv_at hl 0 rfl) ?_
  refine lv_imul hx hb dX7_pass_55 ?_
  refine lv_aload_n hx hb dX7_pass_56 rfl (lv_at hl 1 rfl) ?_
  refine zafter_i C hw (zrunV (rest := [.int (10 * x2)]) C hml hl.1 hw (zn13 hL gw) rfl rfl (c_X7_load l D cy ad m3 H.size hL gw hbc1 lbc1 (fun b hb => ⟨(hbx1 b hb).1, (hbx1 b hb).2.1⟩)) zv_X7_87 rfl rfl rfl ⟨Nat.le_of_ble_eq_true rfl, Nat.le_of_ble_eq_true rfl⟩ rfl (Nat.le_of_ble_eq_true rfl) dX7_pass_57 ⟨Nat.zero_le _, Nat.zero_le _⟩) (fun r6 m5 H locs h4 hw => ?_)
  obtain ⟨er6, h4⟩ := h4
  rw [h4] at hw
  clear h4 m5
  refine lv_idiv hx hb dX7_pass_60 (by rw [er6]; exact hld1) ?_
  refine lv_topi (fun x7 ex7 => ?_)
  refine lv_istore_n (lv' := [(2, .int x7), (1, .int x2), (0, .ref (ad (13, w, 0)))]) hx hb dX7_pass_61 rfl hl (by decide) rfl (fun ls hl => ?_)
  refine lv_iconst (v := 0) hx hb dX7_pass_62 (by decide) ?_
  refine lv_istore_n (lv' := [(3, .int 0), (2, .int x7), (1, .int x2), (0, .ref (ad (13, w, 0)))]) hx hb dX7_pass_63 rfl hl (by decide) rfl (fun ls hl => ?_)
  have loop64 : ∀ (z : Nat) (k : Nat) (m0 : ZM) (H : Heap) (locs : List Loc) (ls : Array Slot), bc - k = z → (k ≤ bc) → (m0 = q_boxes7 m3 w sc go x2 x7 k) → zH D cy ad L s.heap H locs m0 → lv_has ls 8 [(0, .ref (ad (13, w, 0))), (1, .int x2), (2, .int x7), (3, .int (nI k))] → W p l e ({ frames := 3, cells := 0, slots := 0, locals := 72 } : Room) s mi [.ref (ad (13, w, 0))].toArray below meth c H locs 0 0 (MQ below (zQi (fun r m1 => r = q_turns7 m w bc sc hq ∧ m1 = q_pass7 m w bc sc go hq) D cy ad L s.heap.size) [.ref (ad (13, w, 0))].toArray s 0 0 (zA ad L s.heap.size)) (F0 mi 64 ls []) := by
    intro z
    induction z using Nat.strongRecOn with
    | _ z ih64 =>
    intro k m0 H locs ls hz64 i64_1 i64_2 hw hl
    have G0 : gS m0 w bc sc go hq := by rw [i64_2]; exact gS_boxes G1 (by omega)
    obtain ⟨hbc0, lbc0, hbx0, hhd0, ⟨ln0, hln0, lln0, hlt0⟩, hhq0, lhq0, hld0⟩ := id G0
    refine lv_iload_n hx hb dX7_pass_64 rfl (lv_at hl 3 rfl) ?_
    refine lv_aload_n hx hb dX7_pass_65 rfl (lv_at hl 0 rfl) ?_
    refine zg_X7_64 C hw (zn13 hL gw) dX7_pass_66 ?_
    refine ztop hbc0 ?_
    refine lv_icmp_ge (tgt := 262) hx hb dX7_pass_69 (by decide) (fun c69_8 => ?_) (fun c69_8 => ?_)
    · skip
      have n9 := zle c69_8 (a := bc) (b := k) rfl rfl (by omega) (by omega)
      refine lv_aload_n hx hb dX7_pass_262 rfl (lv_at hl 0 rfl) ?_
      refine lv_dup hx hb dX7_pass_263 rfl ?_
      refine zg_X7_61 C hw (zn13 hL gw) dX7_pass_264 ?_
      refine lv_iconst (v := 1) hx hb dX7_pass_267 (by decide) ?_
      refine lv_iadd hx hb dX7_pass_268 ?_
      refine zp_X7_61 C hw (zn13 hL gw) dX7_pass_269 (fun H locs m10 em10 hw => ?_)
      refine lv_iload_n hx hb dX7_pass_272 rfl (lv_at hl 2 rfl) ?_
      exact zret_i C hr hlocks hw dX7_pass_273 (by obtain rfl : k = bc := (by omega); exact ⟨by subst_vars; rfl, by subst_vars; rfl⟩)
    · skip
      have n11 := znle c69_8 (a := bc) (b := k) rfl rfl (by omega) (by omega)
      refine lv_aload_n hx hb dX7_pass_72 rfl (lv_at hl 0 rfl) ?_
      refine lv_iload_n hx hb dX7_pass_73 rfl (lv_at hl 3 rfl) ?_
      refine zafter_v C hw (zrunV (rest := []) C hml hl.1 hw (zn13 hL gw) rfl rfl (c_X7_eat l D cy ad m0 H.size hL gw k (by omega) hln0 lln0) zv_X7_91 rfl rfl rfl ⟨Nat.le_of_ble_eq_true rfl, Nat.le_of_ble_eq_true rfl⟩ rfl (Nat.le_of_ble_eq_true rfl) dX7_pass_74 ⟨Nat.zero_le _, Nat.zero_le _⟩) (fun m13 H locs h12 hw => ?_)
      have em13 := h12
      have G2 : gS m13 w bc sc go hq := by rw [em13]; exact gS_eat G0 (by omega)
      obtain ⟨-, -, hbx2, hhd2, -⟩ := id G2
      have h1s := (hbx2 k (by omega)).1
      have lgk := (hbx2 k (by omega)).2.2.2
      obtain ⟨hd, hh, l1, l2⟩ := hhd2 k (by omega)
      refine lv_aload_n hx hb dX7_pass_77 rfl (lv_at hl 0 rfl) ?_
      refine lv_iload_n hx hb dX7_pass_78 rfl (lv_at hl 3 rfl) ?_
      refine lv_iload_n hx hb dX7_pass_79 rfl (lv_at hl 2 rfl) ?_
      refine zafter_v C hw (zrunV (rest := []) C hml hl.1 hw (zn13 hL gw) rfl rfl (c_X7_blow l D cy ad m13 H.size hL gw k (by omega) h1s (hbx0 k (by omega)).2.1 hh l1 l2 x7) zv_X7_95 rfl rfl rfl ⟨Nat.le_of_ble_eq_true rfl, Nat.le_of_ble_eq_true rfl⟩ rfl (Nat.le_of_ble_eq_true rfl) dX7_pass_80 ⟨Nat.zero_le _, Nat.zero_le _⟩) (fun m16 H locs h15 hw => ?_)
      have em16 := h15
      refine lv_iconst (v := 2) hx hb dX7_pass_83 (by decide) ?_
      refine lv_iconst (v := 3) hx hb dX7_pass_84 (by decide) ?_
      refine lv_iload_n hx hb dX7_pass_85 rfl (lv_at hl 3 rfl) ?_
      refine lv_imul hx hb dX7_pass_86 ?_
      refine lv_iconst (v := 2) hx hb dX7_pass_87 (by decide) ?_
      refine lv_iadd hx hb dX7_pass_88 ?_
      refine lv_imul hx hb dX7_pass_89 ?_
      refine ztop (y := nI (2 * ((3 * k) + 2))) (zmul rfl (zadd (zmul rfl rfl) rfl)) ?_
      refine lv_istore (lv' := [(4, .int (nI (2 * ((3 * k) + 2)))), (0, .ref (ad (13, w, 0))), (1, .int x2), (2, .int x7), (3, .int (nI k))]) hx hb dX7_pass_90 hl (by decide) rfl (fun ls hl => ?_)
      refine lv_aload_n hx hb dX7_pass_92 rfl (lv_at hl 1 rfl) ?_
      refine zg_X7_46 C hw (zn13 hL gw) dX7_pass_93 ?_
      refine lv_iload hx hb dX7_pass_96 (lv_at hl 0 rfl) ?_
      refine lv_iconst (v := 1) hx hb dX7_pass_98 (by decide) ?_
      refine lv_iadd hx hb dX7_pass_99 ?_
      refine zaldN C hw (zq19 hL gw) ((2 * ((3 * k) + 2)) + 1) (by omega) (zadd rfl rfl) (by decide) dX7_pass_100 ?_
      refine lv_if_ne (tgt := 108) hx hb dX7_pass_101 (by decide) (fun c101_18 => ?_) (fun c101_18 => ?_)
      · skip
        refine lv_iconst (v := 1) hx hb dX7_pass_108 (by decide) ?_
        refine lv_aload_n hx hb dX7_pass_109 rfl (lv_at hl 1 rfl) ?_
        refine zg_X7_46 C hw (zn13 hL gw) dX7_pass_110 ?_
        refine lv_iload hx hb dX7_pass_113 (lv_at hl 0 rfl) ?_
        refine lv_iconst (v := 1) hx hb dX7_pass_115 (by decide) ?_
        refine lv_iadd hx hb dX7_pass_116 ?_
        refine zaldN C hw (zq19 hL gw) ((2 * ((3 * k) + 2)) + 1) (by omega) (zadd rfl rfl) (by decide) dX7_pass_117 ?_
        refine lv_bipush (v := 10) hx hb dX7_pass_118 (by decide) ?_
        refine lv_idiv hx hb dX7_pass_120 (by decide) ?_
        refine va_mmax hx hb (hml.trans hl.1.symm) hown (hts _ zL_X7_99) (hts _ zT_max) (hts _ zN_Math) (hts _ zO_max) (Nat.le_of_ble_eq_true rfl) (Nat.le_of_ble_eq_true rfl) (Nat.zero_le _) (Nat.zero_le _) dX7_pass_121 ?_
        refine lv_topi (fun x19 ex19 => ?_)
        refine lv_istore (lv' := [(5, .int x19), (4, .int (nI (2 * ((3 * k) + 2)))), (0, .ref (ad (13, w, 0))), (1, .int x2), (2, .int x7), (3, .int (nI k))]) hx hb dX7_pass_124 hl (by decide) rfl (fun ls hl => ?_)
        have el : x19 = q_lost7 m16 w k := ex19.trans (if_neg c101_18).symm
        refine lv_aload_n hx hb dX7_pass_126 rfl (lv_at hl 2 rfl) ?_
        refine zg_X7_46 C hw (zn13 hL gw) dX7_pass_127 ?_
        refine lv_iload hx hb dX7_pass_130 (lv_at hl 1 rfl) ?_
        refine lv_iconst (v := 1) hx hb dX7_pass_132 (by decide) ?_
        refine lv_iadd hx hb dX7_pass_133 ?_
        refine lv_dup2_11 hx hb dX7_pass_134 rfl rfl ?_
        refine zaldN C hw (zq19 hL gw) ((2 * ((3 * k) + 2)) + 1) (by omega) (zadd rfl rfl) (by decide) dX7_pass_135 ?_
        refine lv_iload hx hb dX7_pass_136 (lv_at hl 0 rfl) ?_
        refine lv_isub hx hb dX7_pass_138 ?_
        refine zastN C hw (zq19 hL gw) ((2 * ((3 * k) + 2)) + 1) (by omega) (zadd rfl rfl) (by decide) dX7_pass_139 (fun H locs m20 em20 hw => ?_)
        refine lv_aload_n hx hb dX7_pass_140 rfl (lv_at hl 2 rfl) ?_
        refine lv_dup hx hb dX7_pass_141 rfl ?_
        refine zg_X7_70 C hw (zn13 hL gw) dX7_pass_142 ?_
        refine lv_iload hx hb dX7_pass_145 (lv_at hl 0 rfl) ?_
        refine lv_iadd hx hb dX7_pass_147 ?_
        refine zp_X7_70 C hw (zn13 hL gw) dX7_pass_148 (fun H locs m21 em21 hw => ?_)
        have h4g : m21 (2, 16 + 20 * w, 4) k = nI (go k) := by rw [em21, zs_k (zk rfl), em20, zs_ne (z2_ne (by omega)), em16, q_blow7_ne (z2_ne (by omega)) (z2_ne (by omega))]; exact (hbx2 k (by omega)).2.2.1
        refine lv_aload_n hx hb dX7_pass_151 rfl (lv_at hl 2 rfl) ?_
        refine lv_iload_n hx hb dX7_pass_152 rfl (lv_at hl 5 rfl) ?_
        refine lv_iconst (v := 2) hx hb dX7_pass_153 (by decide) ?_
        refine zafter_i C hw (zrunV (rest := []) C hml hl.1 hw (zn13 hL gw) rfl rfl (c_X7_oreOf l D cy ad m21 H.size hL gw k 2 (by omega) (by decide)) zv_X7_102 rfl rfl rfl ⟨Nat.le_of_ble_eq_true rfl, Nat.le_of_ble_eq_true rfl⟩ rfl (Nat.le_of_ble_eq_true rfl) dX7_pass_154 ⟨Nat.zero_le _, Nat.zero_le _⟩) (fun r24 m23 H locs h22 hw => ?_)
        obtain ⟨er24, h22⟩ := h22
        rw [h22] at hw
        clear h22 m23
        refine lv_iload_n hx hb dX7_pass_157 rfl (lv_at hl 3 rfl) ?_
        refine lv_iconst (v := 4) hx hb dX7_pass_158 (by decide) ?_
        refine lv_idiv hx hb dX7_pass_159 (by decide) ?_
        refine lv_sipush (v := 6000) hx hb dX7_pass_160 (by decide) ?_
        refine lv_aload_n hx hb dX7_pass_163 rfl (lv_at hl 2 rfl) ?_
        refine lv_aload_n hx hb dX7_pass_164 rfl (lv_at hl 2 rfl) ?_
        refine zg_X7_37 C hw (zn13 hL gw) dX7_pass_165 ?_
        refine lv_iload_n hx hb dX7_pass_168 rfl (lv_at hl 5 rfl) ?_
        refine zaldN C hw (zq16 hL gw) k (by omega) rfl (by decide) dX7_pass_169 ?_
        refine ztop h4g ?_
        refine zafter_i C hw (zrunV (rest := [.int 6000, .int (x2 / 4), .int r24]) C hml hl.1 hw (zn13 hL gw) rfl rfl (c_X7_inBuddle l D cy ad m21 H.size hL gw (go k) (hbx0 k (by omega)).2.2.2) zv_X7_105 rfl rfl rfl ⟨Nat.le_of_ble_eq_true rfl, Nat.le_of_ble_eq_true rfl⟩ rfl (Nat.le_of_ble_eq_true rfl) dX7_pass_170 ⟨Nat.zero_le _, Nat.zero_le _⟩) (fun r27 m26 H locs h25 hw => ?_)
        obtain ⟨er27, h25⟩ := h25
        rw [h25] at hw
        clear h25 m26
        refine lv_isub hx hb dX7_pass_173 ?_
        refine va_mmin hx hb (hml.trans hl.1.symm) hown (hts _ zL_X7_81) (hts _ zT_min) (hts _ zN_Math) (hts _ zO_min) (Nat.le_of_ble_eq_true rfl) (Nat.le_of_ble_eq_true rfl) (Nat.zero_le _) (Nat.zero_le _) dX7_pass_174 ?_
        refine va_mmin hx hb (hml.trans hl.1.symm) hown (hts _ zL_X7_81) (hts _ zT_min) (hts _ zN_Math) (hts _ zO_min) (Nat.le_of_ble_eq_true rfl) (Nat.le_of_ble_eq_true rfl) (Nat.zero_le _) (Nat.zero_le _) dX7_pass_177 ?_
        refine lv_topi (fun x28 ex28 => ?_)
        refine lv_istore (lv' := [(6, .int x28), (5, .int x19), (4, .int (nI (2 * ((3 * k) + 2)))), (0, .ref (ad (13, w, 0))), (1, .int x2), (2, .int x7), (3, .int (nI k))]) hx hb dX7_pass_180 hl (by decide) rfl (fun ls hl => ?_)
        refine lv_aload_n hx hb dX7_pass_182 rfl (lv_at hl 3 rfl) ?_
        refine zg_X7_46 C hw (zn13 hL gw) dX7_pass_183 ?_
        refine lv_iload hx hb dX7_pass_186 (lv_at hl 2 rfl) ?_
        refine lv_aload_n hx hb dX7_pass_188 rfl (lv_at hl 3 rfl) ?_
        refine zg_X7_52 C hw (zn13 hL gw) dX7_pass_189 ?_
        refine lv_iconst (v := 2) hx hb dX7_pass_192 (by decide) ?_
        refine lv_aload_n hx hb dX7_pass_193 rfl (lv_at hl 3 rfl) ?_
        refine zg_X7_37 C hw (zn13 hL gw) dX7_pass_194 ?_
        refine lv_iload_n hx hb dX7_pass_197 rfl (lv_at hl 6 rfl) ?_
        refine zaldN C hw (zq16 hL gw) k (by omega) rfl (by decide) dX7_pass_198 ?_
        refine ztop h4g ?_
        refine lv_imul hx hb dX7_pass_199 ?_
        refine lv_iload hx hb dX7_pass_200 (lv_at hl 0 rfl) ?_
        rw [show (2 * (nI (go k))) = nI (2 * (go k)) from (zmul rfl rfl)]
        refine zafter_v C hw (zrunS (rest := []) C hml hl.1 hw (c_X7_move l D cy ad m21 H.size (zq19 hL gw) (by decide) (zq21 hL gw) (by decide) (2 * (3 * k + 2)) (2 * go k) (by omega) (by omega) x28) zv_X7_109 rfl rfl rfl ⟨Nat.le_of_ble_eq_true rfl, Nat.le_of_ble_eq_true rfl⟩ rfl (Nat.le_of_ble_eq_true rfl) dX7_pass_202 ⟨Nat.zero_le _, Nat.zero_le _⟩) (fun m30 H locs h29 hw => ?_)
        have em30 := h29
        have h5s : m30 (2, 11 + 20 * w, 4) k = nI (sc k) := by rw [em30, q_mv_ne (z2_ne (by omega)) (z2_ne (by omega)), em21, zs_k (zk rfl), em20, zs_ne (z2_ne (by omega)), em16, q_blow7_ne (z2_ne (by omega)) (z2_ne (by omega))]; exact (hbx2 k (by omega)).1
        refine lv_iconst (v := 4) hx hb dX7_pass_205 (by decide) ?_
        refine lv_iload_n hx hb dX7_pass_206 rfl (lv_at hl 6 rfl) ?_
        refine lv_imul hx hb dX7_pass_207 ?_
        refine ztop (y := nI (4 * k)) (zmul rfl rfl) ?_
        refine lv_istore (lv' := [(7, .int (nI (4 * k))), (6, .int x28), (5, .int x19), (4, .int (nI (2 * ((3 * k) + 2)))), (0, .ref (ad (13, w, 0))), (1, .int x2), (2, .int x7), (3, .int (nI k))]) hx hb dX7_pass_208 hl (by decide) rfl (fun ls hl => ?_)
        have loop210 : ∀ (z : Nat) (j : Nat) (mj : ZM) (H : Heap) (locs : List Loc) (ls : Array Slot), sc k - j = z → (j ≤ sc k) → (mj = q_wear7 m30 w k x7 j) → zH D cy ad L s.heap H locs mj → lv_has ls 8 [(0, .ref (ad (13, w, 0))), (1, .int x2), (2, .int x7), (3, .int (nI k)), (7, .int (nI (4 * k + j)))] → W p l e ({ frames := 3, cells := 0, slots := 0, locals := 72 } : Room) s mi [.ref (ad (13, w, 0))].toArray below meth c H locs 0 0 (MQ below (zQi (fun r m1 => r = q_turns7 m w bc sc hq ∧ m1 = q_pass7 m w bc sc go hq) D cy ad L s.heap.size) [.ref (ad (13, w, 0))].toArray s 0 0 (zA ad L s.heap.size)) (F0 mi 210 ls []) := by
          intro z
          induction z using Nat.strongRecOn with
          | _ z ih210 =>
          intro j mj H locs ls hz210 i210_1 i210_2 hw hl
          have h6s : mj (2, 11 + 20 * w, 4) k = nI (sc k) := by rw [i210_2, q_wear7_ne (z2_ne (by omega))]; exact h5s
          have lsk := (hbx0 k (by omega)).2.1
          refine lv_iload hx hb dX7_pass_210 (lv_at hl 4 rfl) ?_
          refine lv_iconst (v := 4) hx hb dX7_pass_212 (by decide) ?_
          refine lv_iload_n hx hb dX7_pass_213 rfl (lv_at hl 3 rfl) ?_
          refine lv_imul hx hb dX7_pass_214 ?_
          refine lv_aload_n hx hb dX7_pass_215 rfl (lv_at hl 0 rfl) ?_
          refine zg_X7_22 C hw (zn13 hL gw) dX7_pass_216 ?_
          refine lv_iload_n hx hb dX7_pass_219 rfl (lv_at hl 3 rfl) ?_
          refine zaldN C hw (zq11 hL gw) k (by omega) rfl (by decide) dX7_pass_220 ?_
          refine ztop h6s ?_
          refine lv_iadd hx hb dX7_pass_221 ?_
          refine lv_icmp_ge (tgt := 256) hx hb dX7_pass_222 (by decide) (fun c222_32 => ?_) (fun c222_32 => ?_)
          · skip
            have n33 := zle c222_32 (a := ((4 * k) + (sc k))) (b := (4 * k + j)) (zadd (zmul rfl rfl) rfl) rfl (by omega) (by omega)
            refine lv_iinc (v := (nI (k + 1))) (lv' := [(3, .int (nI (k + 1))), (0, .ref (ad (13, w, 0))), (1, .int x2), (2, .int x7), (7, .int (nI (4 * k + j)))]) hx hb dX7_pass_256 hl (k := 3) rfl (nI_1 k) (by decide) rfl (fun ls hl => ?_)
            refine lv_goto (tgt := 64) hx hb dX7_pass_259 (by decide) ?_
            exact ih64 _ (by omega) (k + 1) mj _ _ _ rfl (by omega) (by rw [i210_2, show j = sc k by omega, show q_boxes7 _ w sc go _ _ (k + 1) = q_box7 (q_boxes7 _ w sc go _ _ k) w k (sc k) (go k) _ _ from rfl, ← i64_2]; exact q_box7_go em13 (by rw [hh]; exact nI_clamp (by omega)) em16 el em20 em21 (by rw [ex28, er24, er27]; rfl) em30 rfl) hw (lv_sub hl [1, 2, 3, 0] rfl)
          · skip
            have n34 := znle c222_32 (a := ((4 * k) + (sc k))) (b := (4 * k + j)) (zadd (zmul rfl rfl) rfl) rfl (by omega) (by omega)
            refine lv_aload_n hx hb dX7_pass_225 rfl (lv_at hl 0 rfl) ?_
            refine zg_X7_31 C hw (zn13 hL gw) dX7_pass_226 ?_
            refine lv_iload hx hb dX7_pass_229 (lv_at hl 4 rfl) ?_
            refine lv_bipush (v := 90) hx hb dX7_pass_231 (by decide) ?_
            refine lv_aload_n hx hb dX7_pass_233 rfl (lv_at hl 0 rfl) ?_
            refine zg_X7_31 C hw (zn13 hL gw) dX7_pass_234 ?_
            refine lv_iload hx hb dX7_pass_237 (lv_at hl 4 rfl) ?_
            refine zaldN C hw (zq14 hL gw) (4 * k + j) (by omega) rfl (by decide) dX7_pass_239 ?_
            refine lv_iload_n hx hb dX7_pass_240 rfl (lv_at hl 2 rfl) ?_
            refine lv_sipush (v := 200) hx hb dX7_pass_241 (by decide) ?_
            refine lv_idiv hx hb dX7_pass_244 (by decide) ?_
            refine lv_iadd hx hb dX7_pass_245 ?_
            refine va_mmin hx hb (hml.trans hl.1.symm) hown (hts _ zL_X7_81) (hts _ zT_min) (hts _ zN_Math) (hts _ zO_min) (Nat.le_of_ble_eq_true rfl) (Nat.le_of_ble_eq_true rfl) (Nat.zero_le _) (Nat.zero_le _) dX7_pass_246 ?_
            refine zastN C hw (zq14 hL gw) (4 * k + j) (by omega) rfl (by decide) dX7_pass_249 (fun H locs m35 em35 hw => ?_)
            refine lv_iinc (v := (nI ((4 * k + j) + 1))) (lv' := [(7, .int (nI ((4 * k + j) + 1))), (0, .ref (ad (13, w, 0))), (1, .int x2), (2, .int x7), (3, .int (nI k))]) hx hb dX7_pass_250 hl (k := 4) rfl (nI_1 (4 * k + j)) (by decide) rfl (fun ls hl => ?_)
            refine lv_goto (tgt := 210) hx hb dX7_pass_253 (by decide) ?_
            exact ih210 _ (by omega) (j + 1) m35 _ _ _ rfl (by omega) (by rw [em35, i210_2]; rfl) hw (lv_sub hl [1, 2, 3, 4, 0] rfl)
        exact loop210 _ 0 m30 _ _ _ rfl (Nat.zero_le _) rfl hw (lv_sub hl [4, 5, 6, 7, 0] rfl)
      · skip
        refine lv_iconst (v := 0) hx hb dX7_pass_104 (by decide) ?_
        refine lv_goto (tgt := 124) hx hb dX7_pass_105 (by decide) ?_
        refine lv_istore (lv' := [(5, .int 0), (4, .int (nI (2 * ((3 * k) + 2)))), (0, .ref (ad (13, w, 0))), (1, .int x2), (2, .int x7), (3, .int (nI k))]) hx hb dX7_pass_124 hl (by decide) rfl (fun ls hl => ?_)
        have el : (0 : Int32) = q_lost7 m16 w k := (if_pos c101_18).symm
        refine lv_aload_n hx hb dX7_pass_126 rfl (lv_at hl 2 rfl) ?_
        refine zg_X7_46 C hw (zn13 hL gw) dX7_pass_127 ?_
        refine lv_iload hx hb dX7_pass_130 (lv_at hl 1 rfl) ?_
        refine lv_iconst (v := 1) hx hb dX7_pass_132 (by decide) ?_
        refine lv_iadd hx hb dX7_pass_133 ?_
        refine lv_dup2_11 hx hb dX7_pass_134 rfl rfl ?_
        refine zaldN C hw (zq19 hL gw) ((2 * ((3 * k) + 2)) + 1) (by omega) (zadd rfl rfl) (by decide) dX7_pass_135 ?_
        refine lv_iload hx hb dX7_pass_136 (lv_at hl 0 rfl) ?_
        refine lv_isub hx hb dX7_pass_138 ?_
        refine zastN C hw (zq19 hL gw) ((2 * ((3 * k) + 2)) + 1) (by omega) (zadd rfl rfl) (by decide) dX7_pass_139 (fun H locs m36 em36 hw => ?_)
        refine lv_aload_n hx hb dX7_pass_140 rfl (lv_at hl 2 rfl) ?_
        refine lv_dup hx hb dX7_pass_141 rfl ?_
        refine zg_X7_70 C hw (zn13 hL gw) dX7_pass_142 ?_
        refine lv_iload hx hb dX7_pass_145 (lv_at hl 0 rfl) ?_
        refine lv_iadd hx hb dX7_pass_147 ?_
        refine zp_X7_70 C hw (zn13 hL gw) dX7_pass_148 (fun H locs m37 em37 hw => ?_)
        have h4g : m37 (2, 16 + 20 * w, 4) k = nI (go k) := by rw [em37, zs_k (zk rfl), em36, zs_ne (z2_ne (by omega)), em16, q_blow7_ne (z2_ne (by omega)) (z2_ne (by omega))]; exact (hbx2 k (by omega)).2.2.1
        refine lv_aload_n hx hb dX7_pass_151 rfl (lv_at hl 2 rfl) ?_
        refine lv_iload_n hx hb dX7_pass_152 rfl (lv_at hl 5 rfl) ?_
        refine lv_iconst (v := 2) hx hb dX7_pass_153 (by decide) ?_
        refine zafter_i C hw (zrunV (rest := []) C hml hl.1 hw (zn13 hL gw) rfl rfl (c_X7_oreOf l D cy ad m37 H.size hL gw k 2 (by omega) (by decide)) zv_X7_102 rfl rfl rfl ⟨Nat.le_of_ble_eq_true rfl, Nat.le_of_ble_eq_true rfl⟩ rfl (Nat.le_of_ble_eq_true rfl) dX7_pass_154 ⟨Nat.zero_le _, Nat.zero_le _⟩) (fun r40 m39 H locs h38 hw => ?_)
        obtain ⟨er40, h38⟩ := h38
        rw [h38] at hw
        clear h38 m39
        refine lv_iload_n hx hb dX7_pass_157 rfl (lv_at hl 3 rfl) ?_
        refine lv_iconst (v := 4) hx hb dX7_pass_158 (by decide) ?_
        refine lv_idiv hx hb dX7_pass_159 (by decide) ?_
        refine lv_sipush (v := 6000) hx hb dX7_pass_160 (by decide) ?_
        refine lv_aload_n hx hb dX7_pass_163 rfl (lv_at hl 2 rfl) ?_
        refine lv_aload_n hx hb dX7_pass_164 rfl (lv_at hl 2 rfl) ?_
        refine zg_X7_37 C hw (zn13 hL gw) dX7_pass_165 ?_
        refine lv_iload_n hx hb dX7_pass_168 rfl (lv_at hl 5 rfl) ?_
        refine zaldN C hw (zq16 hL gw) k (by omega) rfl (by decide) dX7_pass_169 ?_
        refine ztop h4g ?_
        refine zafter_i C hw (zrunV (rest := [.int 6000, .int (x2 / 4), .int r40]) C hml hl.1 hw (zn13 hL gw) rfl rfl (c_X7_inBuddle l D cy ad m37 H.size hL gw (go k) (hbx0 k (by omega)).2.2.2) zv_X7_105 rfl rfl rfl ⟨Nat.le_of_ble_eq_true rfl, Nat.le_of_ble_eq_true rfl⟩ rfl (Nat.le_of_ble_eq_true rfl) dX7_pass_170 ⟨Nat.zero_le _, Nat.zero_le _⟩) (fun r43 m42 H locs h41 hw => ?_)
        obtain ⟨er43, h41⟩ := h41
        rw [h41] at hw
        clear h41 m42
        refine lv_isub hx hb dX7_pass_173 ?_
        refine va_mmin hx hb (hml.trans hl.1.symm) hown (hts _ zL_X7_81) (hts _ zT_min) (hts _ zN_Math) (hts _ zO_min) (Nat.le_of_ble_eq_true rfl) (Nat.le_of_ble_eq_true rfl) (Nat.zero_le _) (Nat.zero_le _) dX7_pass_174 ?_
        refine va_mmin hx hb (hml.trans hl.1.symm) hown (hts _ zL_X7_81) (hts _ zT_min) (hts _ zN_Math) (hts _ zO_min) (Nat.le_of_ble_eq_true rfl) (Nat.le_of_ble_eq_true rfl) (Nat.zero_le _) (Nat.zero_le _) dX7_pass_177 ?_
        refine lv_topi (fun x44 ex44 => ?_)
        refine lv_istore (lv' := [(6, .int x44), (5, .int 0), (4, .int (nI (2 * ((3 * k) + 2)))), (0, .ref (ad (13, w, 0))), (1, .int x2), (2, .int x7), (3, .int (nI k))]) hx hb dX7_pass_180 hl (by decide) rfl (fun ls hl => ?_)
        refine lv_aload_n hx hb dX7_pass_182 rfl (lv_at hl 3 rfl) ?_
        refine zg_X7_46 C hw (zn13 hL gw) dX7_pass_183 ?_
        refine lv_iload hx hb dX7_pass_186 (lv_at hl 2 rfl) ?_
        refine lv_aload_n hx hb dX7_pass_188 rfl (lv_at hl 3 rfl) ?_
        refine zg_X7_52 C hw (zn13 hL gw) dX7_pass_189 ?_
        refine lv_iconst (v := 2) hx hb dX7_pass_192 (by decide) ?_
        refine lv_aload_n hx hb dX7_pass_193 rfl (lv_at hl 3 rfl) ?_
        refine zg_X7_37 C hw (zn13 hL gw) dX7_pass_194 ?_
        refine lv_iload_n hx hb dX7_pass_197 rfl (lv_at hl 6 rfl) ?_
        refine zaldN C hw (zq16 hL gw) k (by omega) rfl (by decide) dX7_pass_198 ?_
        refine ztop h4g ?_
        refine lv_imul hx hb dX7_pass_199 ?_
        refine lv_iload hx hb dX7_pass_200 (lv_at hl 0 rfl) ?_
        rw [show (2 * (nI (go k))) = nI (2 * (go k)) from (zmul rfl rfl)]
        refine zafter_v C hw (zrunS (rest := []) C hml hl.1 hw (c_X7_move l D cy ad m37 H.size (zq19 hL gw) (by decide) (zq21 hL gw) (by decide) (2 * (3 * k + 2)) (2 * go k) (by omega) (by omega) x44) zv_X7_109 rfl rfl rfl ⟨Nat.le_of_ble_eq_true rfl, Nat.le_of_ble_eq_true rfl⟩ rfl (Nat.le_of_ble_eq_true rfl) dX7_pass_202 ⟨Nat.zero_le _, Nat.zero_le _⟩) (fun m46 H locs h45 hw => ?_)
        have em46 := h45
        have h5s : m46 (2, 11 + 20 * w, 4) k = nI (sc k) := by rw [em46, q_mv_ne (z2_ne (by omega)) (z2_ne (by omega)), em37, zs_k (zk rfl), em36, zs_ne (z2_ne (by omega)), em16, q_blow7_ne (z2_ne (by omega)) (z2_ne (by omega))]; exact (hbx2 k (by omega)).1
        refine lv_iconst (v := 4) hx hb dX7_pass_205 (by decide) ?_
        refine lv_iload_n hx hb dX7_pass_206 rfl (lv_at hl 6 rfl) ?_
        refine lv_imul hx hb dX7_pass_207 ?_
        refine ztop (y := nI (4 * k)) (zmul rfl rfl) ?_
        refine lv_istore (lv' := [(7, .int (nI (4 * k))), (6, .int x44), (5, .int 0), (4, .int (nI (2 * ((3 * k) + 2)))), (0, .ref (ad (13, w, 0))), (1, .int x2), (2, .int x7), (3, .int (nI k))]) hx hb dX7_pass_208 hl (by decide) rfl (fun ls hl => ?_)
        have loop210 : ∀ (z : Nat) (j : Nat) (mj : ZM) (H : Heap) (locs : List Loc) (ls : Array Slot), sc k - j = z → (j ≤ sc k) → (mj = q_wear7 m46 w k x7 j) → zH D cy ad L s.heap H locs mj → lv_has ls 8 [(0, .ref (ad (13, w, 0))), (1, .int x2), (2, .int x7), (3, .int (nI k)), (7, .int (nI (4 * k + j)))] → W p l e ({ frames := 3, cells := 0, slots := 0, locals := 72 } : Room) s mi [.ref (ad (13, w, 0))].toArray below meth c H locs 0 0 (MQ below (zQi (fun r m1 => r = q_turns7 m w bc sc hq ∧ m1 = q_pass7 m w bc sc go hq) D cy ad L s.heap.size) [.ref (ad (13, w, 0))].toArray s 0 0 (zA ad L s.heap.size)) (F0 mi 210 ls []) := by
          intro z
          induction z using Nat.strongRecOn with
          | _ z ih210 =>
          intro j mj H locs ls hz210 i210_1 i210_2 hw hl
          have h6s : mj (2, 11 + 20 * w, 4) k = nI (sc k) := by rw [i210_2, q_wear7_ne (z2_ne (by omega))]; exact h5s
          have lsk := (hbx0 k (by omega)).2.1
          refine lv_iload hx hb dX7_pass_210 (lv_at hl 4 rfl) ?_
          refine lv_iconst (v := 4) hx hb dX7_pass_212 (by decide) ?_
          refine lv_iload_n hx hb dX7_pass_213 rfl (lv_at hl 3 rfl) ?_
          refine lv_imul hx hb dX7_pass_214 ?_
          refine lv_aload_n hx hb dX7_pass_215 rfl (lv_at hl 0 rfl) ?_
          refine zg_X7_22 C hw (zn13 hL gw) dX7_pass_216 ?_
          refine lv_iload_n hx hb dX7_pass_219 rfl (lv_at hl 3 rfl) ?_
          refine zaldN C hw (zq11 hL gw) k (by omega) rfl (by decide) dX7_pass_220 ?_
          refine ztop h6s ?_
          refine lv_iadd hx hb dX7_pass_221 ?_
          refine lv_icmp_ge (tgt := 256) hx hb dX7_pass_222 (by decide) (fun c222_48 => ?_) (fun c222_48 => ?_)
          · skip
            have n49 := zle c222_48 (a := ((4 * k) + (sc k))) (b := (4 * k + j)) (zadd (zmul rfl rfl) rfl) rfl (by omega) (by omega)
            refine lv_iinc (v := (nI (k + 1))) (lv' := [(3, .int (nI (k + 1))), (0, .ref (ad (13, w, 0))), (1, .int x2), (2, .int x7), (7, .int (nI (4 * k + j)))]) hx hb dX7_pass_256 hl (k := 3) rfl (nI_1 k) (by decide) rfl (fun ls hl => ?_)
            refine lv_goto (tgt := 64) hx hb dX7_pass_259 (by decide) ?_
            exact ih64 _ (by omega) (k + 1) mj _ _ _ rfl (by omega) (by rw [i210_2, show j = sc k by omega, show q_boxes7 _ w sc go _ _ (k + 1) = q_box7 (q_boxes7 _ w sc go _ _ k) w k (sc k) (go k) _ _ from rfl, ← i64_2]; exact q_box7_go em13 (by rw [hh]; exact nI_clamp (by omega)) em16 el em36 em37 (by rw [ex44, er40, er43]; rfl) em46 rfl) hw (lv_sub hl [1, 2, 3, 0] rfl)
          · skip
            have n50 := znle c222_48 (a := ((4 * k) + (sc k))) (b := (4 * k + j)) (zadd (zmul rfl rfl) rfl) rfl (by omega) (by omega)
            refine lv_aload_n hx hb dX7_pass_225 rfl (lv_at hl 0 rfl) ?_
            refine zg_X7_31 C hw (zn13 hL gw) dX7_pass_226 ?_
            refine lv_iload hx hb dX7_pass_229 (lv_at hl 4 rfl) ?_
            refine lv_bipush (v := 90) hx hb dX7_pass_231 (by decide) ?_
            refine lv_aload_n hx hb dX7_pass_233 rfl (lv_at hl 0 rfl) ?_
            refine zg_X7_31 C hw (zn13 hL gw) dX7_pass_234 ?_
            refine lv_iload hx hb dX7_pass_237 (lv_at hl 4 rfl) ?_
            refine zaldN C hw (zq14 hL gw) (4 * k + j) (by omega) rfl (by decide) dX7_pass_239 ?_
            refine lv_iload_n hx hb dX7_pass_240 rfl (lv_at hl 2 rfl) ?_
            refine lv_sipush (v := 200) hx hb dX7_pass_241 (by decide) ?_
            refine lv_idiv hx hb dX7_pass_244 (by decide) ?_
            refine lv_iadd hx hb dX7_pass_245 ?_
            refine va_mmin hx hb (hml.trans hl.1.symm) hown (hts _ zL_X7_81) (hts _ zT_min) (hts _ zN_Math) (hts _ zO_min) (Nat.le_of_ble_eq_true rfl) (Nat.le_of_ble_eq_true rfl) (Nat.zero_le _) (Nat.zero_le _) dX7_pass_246 ?_
            refine zastN C hw (zq14 hL gw) (4 * k + j) (by omega) rfl (by decide) dX7_pass_249 (fun H locs m51 em51 hw => ?_)
            refine lv_iinc (v := (nI ((4 * k + j) + 1))) (lv' := [(7, .int (nI ((4 * k + j) + 1))), (0, .ref (ad (13, w, 0))), (1, .int x2), (2, .int x7), (3, .int (nI k))]) hx hb dX7_pass_250 hl (k := 4) rfl (nI_1 (4 * k + j)) (by decide) rfl (fun ls hl => ?_)
            refine lv_goto (tgt := 210) hx hb dX7_pass_253 (by decide) ?_
            exact ih210 _ (by omega) (j + 1) m51 _ _ _ rfl (by omega) (by rw [em51, i210_2]; rfl) hw (lv_sub hl [1, 2, 3, 4, 0] rfl)
        exact loop210 _ 0 m46 _ _ _ rfl (Nat.zero_le _) rfl hw (lv_sub hl [4, 5, 6, 7, 0] rfl)
  exact loop64 _ 0 m3 _ _ _ rfl (Nat.zero_le _) rfl hw (lv_sub hl [3, 2, 1, 0] rfl)
