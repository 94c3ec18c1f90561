/-! washing, smelting, looking ahead, in the reference -/
def q8_washL (m : ZM) (b : Nat) (x : Int32) : Int32 × Int32 := (m (2, 21 + 20 * 0, 6) (2 * b) - q8_headRock m b x, m (2, 21 + 20 * 0, 6) (2 * b + 1) - q8_headTin m b x)
def q8_washE (m : ZM) (b : Nat) (x lr lt : Int32) (m1 : ZM) : ZM :=
  let m2 := zs m1 (12, 0, 0) 5 (m1 (12, 0, 0) 5 + (lt - lt / 2))
  let m3 := zs m2 (12, 0, 0) 4 (m2 (12, 0, 0) 4 + (lr - lr / 2))
  let m4 := zs m3 (2, 60, 2) 0 (m3 (2, 60, 2) 0 + q8_headRock m b x)
  let m5 := zs m4 (2, 60, 2) 1 (m4 (2, 60, 2) 1 + q8_headTin m b x)
  zs (zs m5 (2, 21 + 20 * 0, 6) (2 * b) 0) (2, 21 + 20 * 0, 6) (2 * b + 1) 0
def q8_washM (m : ZM) (ln b : Nat) (x : Int32) : ZM :=
  if (q8_washL m b x).2 / 2 + (q8_washL m b x).1 / 2 ≤ 0 then q8_washE m b x (q8_washL m b x).1 (q8_washL m b x).2 m
  else q8_washE m b x (q8_washL m b x).1 (q8_washL m b x).2 (q_addLot7 m 0 ln ((q8_washL m b x).1 / 2) ((q8_washL m b x).2 / 2) 1)
def q8_wash (m : ZM) (ln : Nat) (b x : Int32) : Int32 × ZM :=
  if q_isIn b 0 2 = 0 then q8_t m 1 else if q_isIn x 10 90 = 0 then q8_t m 2 else if q_pair (q8_z m) (2, 21 + 20 * 0, 6) (2 * b.toNatClampNeg) = 0 then q8_t m 3 else if nI ln = 30 then q8_t m 3 else
    (q8_headTin (q8_z m) b.toNatClampNeg x, q8_washM (q8_z m) ln b.toNatClampNeg x)
theorem q8_wash_a {m : ZM} {ln b : Nat} {x : Int32} (h : (m (2, 21 + 20 * 0, 6) (2 * b + 1) - q8_headTin m b x) / 2 + (m (2, 21 + 20 * 0, 6) (2 * b) - q8_headRock m b x) / 2 ≤ 0) : q8_washM m ln b x = q8_washE m b x (m (2, 21 + 20 * 0, 6) (2 * b) - q8_headRock m b x) (m (2, 21 + 20 * 0, 6) (2 * b + 1) - q8_headTin m b x) m := if_pos h
theorem q8_wash_b {m : ZM} {ln b : Nat} {x : Int32} (h : ¬ (m (2, 21 + 20 * 0, 6) (2 * b + 1) - q8_headTin m b x) / 2 + (m (2, 21 + 20 * 0, 6) (2 * b) - q8_headRock m b x) / 2 ≤ 0) : q8_washM m ln b x = q8_washE m b x (m (2, 21 + 20 * 0, 6) (2 * b) - q8_headRock m b x) (m (2, 21 + 20 * 0, 6) (2 * b + 1) - q8_headTin m b x) (q_addLot7 m 0 ln ((m (2, 21 + 20 * 0, 6) (2 * b) - q8_headRock m b x) / 2) ((m (2, 21 + 20 * 0, 6) (2 * b + 1) - q8_headTin m b x) / 2) 1) := if_neg h
def q8_againP (m : ZM) (b : Nat) : Int32 := q_min (m (2, 60, 2) 0 + m (2, 60, 2) 1) (6000 - q_pair m (2, 21 + 20 * 0, 6) (2 * b))
def q8_again (m : ZM) (b : Int32) : Int32 × ZM :=
  if q_isIn b 0 2 = 0 then q8_t m 1 else (q8_againP (q8_z m) b.toNatClampNeg, q_mv (q8_z m) (2, 60, 2) 0 (2, 21 + 20 * 0, 6) (2 * b.toNatClampNeg) (q8_againP (q8_z m) b.toNatClampNeg))
def q8_smT (m : ZM) (x : Int32) : Int32 := q_tinOf (m (2, 60, 2) 0) (m (2, 60, 2) 1) x
def q8_take (m : ZM) (x : Int32) : ZM :=
  let m1 := zs m (2, 60, 2) 0 (m (2, 60, 2) 0 - (x - q8_smT m x))
  zs m1 (2, 60, 2) 1 (m1 (2, 60, 2) 1 - q8_smT m x)
theorem q8_take_k {m : ZM} {x : Int32} {k : ZN} (h : k.1 ≠ 2) (j : Nat) : q8_take m x k j = m k j := by
  unfold q8_take
  rw [zs_k h, zs_k h]
theorem zs_cong {m m1 : ZM} {n k : ZN} {j : Nat} {x : Int32} (h : m k = m1 k) : zs m n j x k = zs m1 n j x k := by
  unfold zs zu
  split
  · next e => subst e; rw [h]
  · exact h
theorem q_mv_v0 {m : ZM} {n v : ZN} {i j : Nat} {x : Int32} (h : v ≠ n) : q_mv m n i v j x v j = m v j + (x - q_tinOf (m n i) (m n (i + 1)) x) ∧ q_mv m n i v j x v (j + 1) = m v (j + 1) + q_tinOf (m n i) (m n (i + 1)) x := by
  unfold q_mv
  refine ⟨?_, ?_⟩
  · rw [zs_ej (show j ≠ j + 1 by omega), zs_eq rfl, zs_ne h, zs_ne h]
  · rw [zs_eq rfl, zs_ej (show j + 1 ≠ j by omega), zs_ne h, zs_ne h]
theorem q8_taken0 {m m1 : ZM} {x : Int32} (e : m1 = zu m (2, 71, 2) (fun _ => 0)) : q_mv m1 (2, 60, 2) 0 (2, 71, 2) 0 x (2, 71, 2) 0 = 0 + (x - q_tinOf (m (2, 60, 2) 0) (m (2, 60, 2) 1) x) := by
  rw [(q_mv_v0 (by decide)).1, e, zu_eq, zu_ne (by decide)]
theorem q8_taken1 {m m1 : ZM} {x : Int32} (e : m1 = zu m (2, 71, 2) (fun _ => 0)) : q_mv m1 (2, 60, 2) 0 (2, 71, 2) 0 x (2, 71, 2) 1 = 0 + q_tinOf (m (2, 60, 2) 0) (m (2, 60, 2) 1) x := by
  rw [(q_mv_v0 (j := 0) (by decide)).2, e, zu_eq, zu_ne (by decide)]
theorem q8_taken2 {m m1 : ZM} {x : Int32} (e : m1 = zu m (2, 71, 2) (fun _ => 0)) {k : ZN} (hk : k ≠ (2, 71, 2)) : q_mv m1 (2, 60, 2) 0 (2, 71, 2) 0 x k = q8_take m x k := by
  have h1 : m1 (2, 60, 2) = m (2, 60, 2) := by rw [e]; exact zu_ne (by decide)
  unfold q_mv q8_take q8_smT
  rw [zs_ne hk, zs_ne hk]
  by_cases h : k = (2, 60, 2)
  · subst h
    rw [zs_at, zs_at, zs_at, zs_at, h1]
  · rw [zs_ne h, zs_ne h, zs_ne h, zs_ne h, e, zu_ne hk]
def q8_smelt (m : ZM) (x : Int32) : Int32 × ZM :=
  if 1 ≤ x then if x ≤ q8_z m (2, 60, 2) 0 + q8_z m (2, 60, 2) 1 then
      if q8_grade (0 + (x - q8_smT (q8_z m) x)).toInt64 (0 + q8_smT (q8_z m) x).toInt64 < 400 then (0, zs (q8_take (q8_z m) x) (12, 0, 0) 6 (q8_z m (12, 0, 0) 6 + 0))
      else ((0 + q8_smT (q8_z m) x) * 9 / 10, zs (q8_take (q8_z m) x) (12, 0, 0) 6 (q8_z m (12, 0, 0) 6 + (0 + q8_smT (q8_z m) x) * 9 / 10))
    else q8_t m 2 else q8_t m 1
theorem zcp_ne {m : ZM} {n v k : ZN} {len : Nat} (h : k ≠ v) : zcp m n v len k = m k := zu_ne h
theorem zcp_at {m : ZM} {n v : ZN} {len j : Nat} (h : j < len) : zcp m n v len v j = m n j := by
  unfold zcp
  rw [zu_eq]
  unfold va_cpy
  rw [if_pos ⟨Nat.zero_le _, by omega⟩]
  congr 1
  omega
theorem q_cps_k {w v : Nat} {k : ZN} (h : k.1 ≠ 2) : ∀ {q : List (Nat × Nat)} {m : ZM}, q_cps m w v q k = m k := by
  intro q
  induction q with
  | nil => intro m; rfl
  | cons a q ih => intro m; rw [q_cps, ih, zcp_k h]
/-- an array that isn't copied to stays -/
theorem q_cps_ne {w v : Nat} {k : ZN} : ∀ {q : List (Nat × Nat)} {m : ZM}, (∀ a ∈ q, k ≠ (2, a.1 + 20 * w, a.2)) → q_cps m w v q k = m k := by
  intro q
  induction q with
  | nil => intro m _; rfl
  | cons a q ih =>
    intro m h
    rw [q_cps, ih (fun x hx => h x (List.mem_cons_of_mem _ hx)), zcp_ne (h a List.mem_cons_self)]
/-- an array that is copied once holds what the other one holds -/
theorem q_cps_at {w v a len j : Nat} (hj : j < len) (hwv : w ≠ v) : ∀ {q : List (Nat × Nat)} {m : ZM}, (a, len) ∈ q → (∀ x ∈ q, x.1 < 30) → q.Pairwise (fun x y => x.1 ≠ y.1) → w < 2 → v < 2 → q_cps m w v q (2, a + 20 * w, len) j = m (2, a + 20 * v, len) j := by
  intro q
  induction q with
  | nil => intro m h; cases h
  | cons b q ih =>
    intro m h hb hp hw hv
    rw [q_cps]
    obtain ⟨hp1, hp2⟩ := List.pairwise_cons.mp hp
    rcases List.mem_cons.mp h with rfl | h
    · rw [q_cps_ne (fun x hx => z2_ne (by have := hp1 x hx; dsimp only at this; omega))]
      exact zcp_at hj
    · have h1 := hb (a, len) (List.mem_cons_of_mem _ h)
      have h2 := hb b List.mem_cons_self
      have h3 : b.1 ≠ a := hp1 (a, len) h
      dsimp only at h1
      rw [ih h (fun x hx => hb x (List.mem_cons_of_mem _ hx)) hp2 hw hv, zcp_ne (z2_ne (by omega))]
def q_cpl : List (Nat × Nat) := [(10, 24), (11, 4), (12, 16), (13, 16), (14, 16), (15, 4), (16, 4), (17, 4), (18, 4), (19, 24), (20, 90), (21, 6)]
theorem q_become7_2 {m : ZM} {a len j : Nat} (h : (a, len) ∈ q_cpl) (hj : j < len) : q_become7 m 1 0 (2, a + 20 * 1, len) j = m (2, a + 20 * 0, len) j := by
  unfold q_become7
  rw [q_cps_at hj (by decide) h (by decide) (by decide) (by decide) (by decide), zs_k (zk rfl), zs_k (zk rfl), zs_k (zk rfl), zs_k (zk rfl), zs_k (zk rfl), zs_k (zk rfl)]
theorem q_become7_13 {m : ZM} {j : Nat} (h : j = 0 ∨ j = 1 ∨ j = 2 ∨ j = 4 ∨ j = 14 ∨ j = 17) : q_become7 m 1 0 (13, 1, 0) j = m (13, 0, 0) j := by
  unfold q_become7
  rw [q_cps_k (zk rfl)]
  have e : ∀ (m : ZM) (i : Nat) (x : Int32) (j : Nat), zs m (13, 1, 0) i x (13, 0, 0) j = m (13, 0, 0) j := fun m i x j => by rw [zs_ne (by decide)]
  simp only [e]
  rcases h with rfl | rfl | rfl | rfl | rfl | rfl
  · rw [zs_ej (by decide), zs_ej (by decide), zs_ej (by decide), zs_ej (by decide), zs_ej (by decide), zs_eq rfl]
  · rw [zs_ej (by decide), zs_ej (by decide), zs_ej (by decide), zs_ej (by decide), zs_eq rfl]
  · rw [zs_ej (by decide), zs_ej (by decide), zs_ej (by decide), zs_eq rfl]
  · rw [zs_ej (by decide), zs_ej (by decide), zs_eq rfl]
  · rw [zs_ej (by decide), zs_eq rfl]
  · rw [zs_eq rfl]
/-- what isn't of the state ahead -/
def zah (k : ZN) : Prop := k ≠ (13, 1, 0) ∧ ∀ a len : Nat, (a, len) ∈ q_cpl → k ≠ (2, a + 20 * 1, len)
theorem q_become7_o {m : ZM} {k : ZN} (h : zah k) : q_become7 m 1 0 k = m k := by
  unfold q_become7
  rw [q_cps_ne (fun a ha => h.2 a.1 a.2 ha), zs_ne h.1, zs_ne h.1, zs_ne h.1, zs_ne h.1, zs_ne h.1, zs_ne h.1]
theorem q_row7_c {m m1 : ZM} {w v b n : Nat} (hb : 4 * b + n ≤ 16) (h1 : ∀ j, j < 16 → m1 (2, 12 + 20 * w, 16) j = m (2, 12 + 20 * v, 16) j) (h2 : ∀ j, j < 16 → m1 (2, 13 + 20 * w, 16) j = m (2, 13 + 20 * v, 16) j) : q_row7 m1 w b n = q_row7 m v b n := by
  unfold q_row7
  exact bx_sum_c (fun k hk => by rw [h1 _ (by omega), h2 _ (by omega)])
theorem gS_become {m : ZM} {bc hq : Nat} {sc go : Nat → Nat} (G : gS m 0 bc sc go hq) : gS (q_become7 m 1 0) 1 bc sc go hq := by
  obtain ⟨h1, h2, h3, h4, ⟨ln, h5, h6, h7⟩, h8, h9, h10⟩ := G
  refine ⟨by rw [q_become7_13 (by decide)]; exact h1, h2, fun b hb => ?_, fun b hb => ?_, ⟨ln, by rw [q_become7_13 (by decide)]; exact h5, h6, fun j hj => ?_⟩, by rw [q_become7_13 (by decide)]; exact h8, h9, ?_⟩
  · rw [q_become7_2 (a := 11) (len := 4) (by decide) hb, q_become7_2 (a := 16) (len := 4) (by decide) hb]
    exact h3 b hb
  · rw [q_become7_2 (a := 17) (len := 4) (by decide) (by omega)]
    exact h4 b hb
  · rw [q_become7_2 (a := 20) (len := 90) (by decide) (by omega)]
    exact h7 j hj
  · have e : ∀ n, n ≤ 4 → q_load7 (q_become7 m 1 0) 1 sc n = q_load7 m 0 sc n := by
      intro n
      induction n with
      | zero => intro _; rfl
      | succ n ih =>
        intro hn
        have := (h3 n (by omega)).2.1
        rw [q_load7, q_load7, ih (by omega), q_row7_c (v := 0) (m := m) (by omega) (fun j hj => q_become7_2 (a := 12) (len := 16) (by decide) hj) (fun j hj => q_become7_2 (a := 13) (len := 16) (by decide) hj)]
    rw [e bc h2]
    exact h10
theorem gS_sl {m : ZM} {w bc hq : Nat} {sc go : Nat → Nat} {x : Int32} (G : gS m w bc sc go hq) : gS (zs m (13, w, 0) 2 x) w bc sc go hq := by
  obtain ⟨h1, h2, h3, h4, ⟨ln, h5, h6, h7⟩, h8, h9, h10⟩ := G
  refine ⟨by rw [zs_ej (by decide)]; exact h1, h2, fun b hb => by rw [zs_k (zk rfl), zs_k (zk rfl)]; exact h3 b hb, fun b hb => by rw [zs_k (zk rfl)]; exact h4 b hb, ⟨ln, by rw [zs_ej (by decide)]; exact h5, h6, fun j hj => by rw [zs_k (zk rfl)]; exact h7 j hj⟩, by rw [zs_ej (by decide)]; exact h8, h9, ?_⟩
  rw [q_load7_c (zs_k (zk rfl)) (zs_k (zk rfl))]
  exact h10
/-- the hours ahead touch the state ahead alone -/
theorem q_eat_o {b n : Nat} {k : ZN} (h : zah k) : ∀ {m : ZM} {a : Int32}, q_eat 1 b n m a k = m k := by
  induction n with
  | zero => intro m a; rfl
  | succ n ih =>
    intro m a
    rw [q_eat]
    split
    · rfl
    split
    · rfl
    refine (ih).trans ?_
    have e : ∀ u : ZM, u = q_mv (zs m (2, 17 + 20 * 1, 4) b (m (2, 20 + 20 * 1, 90) 2)) (2, 20 + 20 * 1, 90) 0 (2, 19 + 20 * 1, 24) (6 * b) (q_min a (q_pair m (2, 20 + 20 * 1, 90) 0)) → u k = m k := by
      intro u hu
      rw [hu, q_mv_ne (h.2 20 90 (by decide)) (h.2 19 24 (by decide)), zs_ne (h.2 17 4 (by decide))]
    split
    · exact e _ rfl
    · unfold q_drop7
      rw [q_shift_ne (h.2 20 90 (by decide)), zs_ne h.1]
      exact e _ rfl
theorem q_pass7_o {m : ZM} {bc hq : Nat} {sc go : Nat → Nat} {k : ZN} (h : zah k) : q_pass7 m 1 bc sc go hq k = m k := by
  have e : ∀ (n : Nat) (x t : Int32) (m : ZM), q_boxes7 m 1 sc go x t n k = m k := by
    intro n x t m
    induction n with
    | zero => rfl
    | succ n ih =>
      rw [q_boxes7, q_box7]
      rw [q_wear7_ne (h.2 14 16 (by decide)), q_mv_ne (h.2 19 24 (by decide)) (h.2 21 6 (by decide)), zs_ne h.1, zs_ne (h.2 19 24 (by decide)), q_blow7_ne (h.2 18 4 (by decide)) (h.2 19 24 (by decide)), q_eat_o h, ih]
  unfold q_pass7
  rw [zs_ne h.1, e, q_take7, zs_ne h.1, q_pond7, zs_ne h.1]
theorem q_runM7_o {m : ZM} {bc hq n : Nat} {sc go : Nat → Nat} {k : ZN} (h : zah k) : q_runM7 m 1 bc sc go hq n k = m k := by
  induction n with
  | zero => rfl
  | succ n ih => rw [q_runM7, q_pass7_o h, ih]
theorem zah_2 {a len : Nat} (h : a < 30) : zah (2, a + 20 * 0, len) := ⟨fun e => by injection e with e1; exact absurd e1 (by decide), fun b l hb => z2_ne (by
  simp only [q_cpl, List.mem_cons, Prod.mk.injEq, List.not_mem_nil, or_false] at hb
  omega)⟩
theorem zah_k {k : ZN} (h : k.1 ≠ 2) (h2 : k ≠ (13, 1, 0)) : zah k := ⟨h2, fun a l _ e => h (by rw [e])⟩
theorem gS_o {m m1 : ZM} {bc hq : Nat} {sc go : Nat → Nat} (G : gS m 0 bc sc go hq) (h : ∀ k, zah k → m1 k = m k) : gS m1 0 bc sc go hq :=
  gS_same G (fun j _ => by rw [h _ (zah_k (zk rfl) (by decide))]) (h _ (zah_2 (by decide))) (h _ (zah_2 (by decide))) (h _ (zah_2 (by decide))) (h _ (zah_2 (by decide))) (h _ (zah_2 (by decide))) (h _ (zah_2 (by decide)))
def q8_foreM (m : ZM) (bc : Nat) (sc go : Nat → Nat) (hq n : Nat) : ZM := q_runM7 (q_become7 m 1 0) 1 bc sc go hq n
def q8_foresee (m : ZM) (bc : Nat) (sc go : Nat → Nat) (hq : Nat) (h k : Int32) : Int32 × ZM :=
  if q_isIn h 1 100 = 0 then q8_t m 1 else if q_isIn k 0 4 = 0 then q8_t m 2 else if nI hq + h ≤ 5000 then
    if k = 0 then (q_runT7 (q_become7 (q8_z m) 1 0) 1 bc sc go hq h.toNatClampNeg, q8_foreM (q8_z m) bc sc go hq h.toNatClampNeg)
    else if k = 1 then (q8_foreM (q8_z m) bc sc go hq h.toNatClampNeg (13, 1, 0) 1, q8_foreM (q8_z m) bc sc go hq h.toNatClampNeg)
    else if k = 2 then (q_tinBud7 (q8_foreM (q8_z m) bc sc go hq h.toNatClampNeg) 1, q8_foreM (q8_z m) bc sc go hq h.toNatClampNeg)
    else if k = 3 then (q8_foreM (q8_z m) bc sc go hq h.toNatClampNeg (13, 1, 0) 17 - q8_foreM (q8_z m) bc sc go hq h.toNatClampNeg (13, 0, 0) 17, q8_foreM (q8_z m) bc sc go hq h.toNatClampNeg)
    else (q_inHop (q8_foreM (q8_z m) bc sc go hq h.toNatClampNeg) 1 (q8_foreM (q8_z m) bc sc go hq h.toNatClampNeg (13, 1, 0) 14).toNatClampNeg, q8_foreM (q8_z m) bc sc go hq h.toNatClampNeg)
  else q8_t m 3
def q8_advM (m : ZM) (bc : Nat) (sc go : Nat → Nat) (hq n k : Nat) : ZM := q_runM7 (zs (q_become7 m 1 0) (13, 1, 0) 2 (nI k)) 1 bc sc go hq n
def q8_advS (m : ZM) (bc : Nat) (sc go : Nat → Nat) (hq n : Nat) : Nat → ZM × Int32 × Int32
  | 0 => (m, 0, -1)
  | k + 1 => if (q8_advS m bc sc go hq n k).2.2 < q_tinBud7 (q8_advM (q8_advS m bc sc go hq n k).1 bc sc go hq n k) 1 then
      (q8_advM (q8_advS m bc sc go hq n k).1 bc sc go hq n k, nI k, q_tinBud7 (q8_advM (q8_advS m bc sc go hq n k).1 bc sc go hq n k) 1)
    else (q8_advM (q8_advS m bc sc go hq n k).1 bc sc go hq n k, (q8_advS m bc sc go hq n k).2)
theorem gS_adv {m : ZM} {bc hq n k : Nat} {sc go : Nat → Nat} (G : gS m 0 bc sc go hq) : gS (q_runM7 (zs (q_become7 m 1 0) (13, 1, 0) 2 (nI k)) 1 bc sc go hq n) 0 bc sc go hq :=
  gS_o G (fun q hq => by rw [q_runM7_o hq, zs_ne hq.1, q_become7_o hq])
theorem q8_adv_a {m m0 mA mB mC : ZM} {bc hq n k : Nat} {sc go : Nat → Nat} {x2 x3 x4 : Int32} (h : (m0, x2, x3) = q8_advS m bc sc go hq n k) (eA : mA = q_become7 m0 1 0) (eB : mB = zs mA (13, 1, 0) 2 (nI k)) (eC : mC = q_runM7 mB 1 bc sc go hq n) (c : x3 < q_tinBud7 mC 1) (ex : x4 = q_tinBud7 mC 1) : (mC, nI k, x4) = q8_advS m bc sc go hq n (k + 1) := by
  subst ex eC eB eA
  rw [q8_advS, ← h]
  exact (if_pos c).symm
theorem q8_adv_b {m m0 mA mB mC : ZM} {bc hq n k : Nat} {sc go : Nat → Nat} {x2 x3 : Int32} (h : (m0, x2, x3) = q8_advS m bc sc go hq n k) (eA : mA = q_become7 m0 1 0) (eB : mB = zs mA (13, 1, 0) 2 (nI k)) (eC : mC = q_runM7 mB 1 bc sc go hq n) (c : ¬ x3 < q_tinBud7 mC 1) : (mC, x2, x3) = q8_advS m bc sc go hq n (k + 1) := by
  subst eC eB eA
  rw [q8_advS, ← h]
  exact (if_neg c).symm
theorem q8_adv_e {m m0 : ZM} {bc hq n : Nat} {sc go : Nat → Nat} {x2 x3 : Int32} (h : (m0, x2, x3) = q8_advS m bc sc go hq n 21) : ((q8_advS m bc sc go hq n 21).2.1, (q8_advS m bc sc go hq n 21).1) = (x2, m0) := by rw [← h]
def q8_advise (m : ZM) (bc : Nat) (sc go : Nat → Nat) (hq : Nat) (h : Int32) : Int32 × ZM :=
  if q_isIn h 1 48 = 0 then q8_t m 1 else if nI hq + h ≤ 5000 then ((q8_advS (q8_z m) bc sc go hq h.toNatClampNeg 21).2.1, (q8_advS (q8_z m) bc sc go hq h.toNatClampNeg 21).1) else q8_t m 2
def q8_own (m : ZM) (b w : Nat) : Int32 := q8_grade (q8_headRock m b (nI w)).toInt64 (q8_headTin m b (nI w)).toInt64
def q8_bwS (m : ZM) (b : Nat) (x : Int32) : Nat → Int32 × Int32
  | 0 => (-1, -1)
  | n + 1 => if q8_headTin m b (nI (10 + n)) < x then q8_bwS m b x n else if (q8_bwS m b x n).2 < q8_own m b (10 + n) then (nI (10 + n), q8_own m b (10 + n)) else q8_bwS m b x n
theorem q8_bw_a {m : ZM} {b k : Nat} {x x3 x4 : Int32} (h : (x3, x4) = q8_bwS m b x (k - 10)) (hk : 10 ≤ k) (c : q8_headTin m b (nI k) < x) : (x3, x4) = q8_bwS m b x (k + 1 - 10) := by
  rw [show k + 1 - 10 = (k - 10) + 1 by omega, q8_bwS, show 10 + (k - 10) = k by omega, if_pos c]
  exact h
theorem q8_bw_b {m : ZM} {b k : Nat} {x x3 x4 x5 : Int32} (h : (x3, x4) = q8_bwS m b x (k - 10)) (hk : 10 ≤ k) (c : ¬ q8_headTin m b (nI k) < x) (e : x5 = q8_own m b k) (c2 : x4 < x5) : (nI k, x5) = q8_bwS m b x (k + 1 - 10) := by
  rw [show k + 1 - 10 = (k - 10) + 1 by omega, q8_bwS, show 10 + (k - 10) = k by omega, if_neg c, ← h]
  rw [e] at c2 ⊢
  exact (if_pos c2).symm
theorem q8_bw_c {m : ZM} {b k : Nat} {x x3 x4 x5 : Int32} (h : (x3, x4) = q8_bwS m b x (k - 10)) (hk : 10 ≤ k) (c : ¬ q8_headTin m b (nI k) < x) (e : x5 = q8_own m b k) (c2 : ¬ x4 < x5) : (x3, x4) = q8_bwS m b x (k + 1 - 10) := by
  rw [show k + 1 - 10 = (k - 10) + 1 by omega, q8_bwS, show 10 + (k - 10) = k by omega, if_neg c, ← h]
  rw [e] at c2
  exact (if_neg c2).symm
def q8_bwR (m : ZM) (b : Nat) (x : Int32) : Int32 := if q_pair m (2, 21 + 20 * 0, 6) (2 * b) ≤ 0 then -1 else (q8_bwS m b x 81).1
theorem q8_bw_e1 {m : ZM} {b k : Nat} {x x3 x4 : Int32} (h : (x3, x4) = q8_bwS m b x (k - 10)) (h2 : k = 10 ∨ ¬ q_pair m (2, 21 + 20 * 0, 6) (2 * b) ≤ 0) (c : q_pair m (2, 21 + 20 * 0, 6) (2 * b) ≤ 0) : x3 = q8_bwR m b x := by
  unfold q8_bwR
  rw [if_pos c]
  rcases h2 with rfl | h2
  · exact congrArg Prod.fst h
  · exact absurd c h2
theorem q8_bw_e2 {m : ZM} {b k : Nat} {x x3 x4 : Int32} (h : (x3, x4) = q8_bwS m b x (k - 10)) (h2 : ¬ q_pair m (2, 21 + 20 * 0, 6) (2 * b) ≤ 0) (hk : k = 91) : x3 = q8_bwR m b x := by
  unfold q8_bwR
  rw [if_neg h2]
  subst hk
  exact congrArg Prod.fst h
def q8_bestWater (m : ZM) (b x : Int32) : Int32 × ZM :=
  if q_isIn b 0 2 = 0 then q8_t m 1 else if 0 ≤ x then (q8_bwR (q8_z m) b.toNatClampNeg x, q8_z m) else q8_t m 2

set_option maxHeartbeats 4000000 in
set_option maxRecDepth 100000 in
theorem c_X8_wash (l : Launch) (D : va_G) (cy : Nat → ClassId) (ad : ZN → Nat) (m : ZM) (sz : Nat) {L : List ZN} (hL : zL L) {bc : Nat} {sc go : Nat → Nat} {hq ln : Nat} (G : gM m bc sc go hq ln) (b x : Int32) : Met l yX8_wash (zws yX8_wash cX8_wash 7 (some .int)) ({ frames := 1, cells := 0, slots := 0, locals := 23 } : Room) (zPc D cy ad L m sz [.ref (ad (12, 0, 0)), .int b, .int x]) (zQi (fun r m1 => r = (q8_wash m ln b x).1 ∧ m1 = (q8_wash m ln b x).2) D cy ad L sz) 0 0 (zA ad L sz) := by
  refine zopen (Qc := fun sz => zQi (fun r m1 => r = (q8_wash m ln b x).1 ∧ m1 = (q8_wash m ln b x).2) D cy ad L sz) RX8 (plainFor_of_name (by decide)) rfl (Nat.le_of_ble_eq_true rfl) ?_
  intro p e s mi below meth c ls C hr hlocks hml hl H locs hw
  obtain ⟨hx, hb, hts, hown, hK, hNw⟩ := id C
  have hl : lv_has ls 7 [(0, .ref (ad (12, 0, 0))), (1, .int b), (2, .int x)] := hl
  refine lv_aload_n hx hb dX8_wash_0 rfl (lv_at hl 0 rfl) ?_
  refine lv_iconst (v := 0) hx hb dX8_wash_1 (by decide) ?_
  refine zp_X8_23 C hw (zn12 hL) dX8_wash_2 (fun H locs m1 em1 hw => ?_)
  have GM1 : gM m1 bc sc go hq ln := by rw [em1]; exact gM_t G
  obtain ⟨⟨hbc1, lbc1, hbx1, hhd1, -, hhq1, lhq1, hld1⟩, hln1, lln1⟩ := id GM1
  refine lv_iload_n hx hb dX8_wash_5 rfl (lv_at hl 1 rfl) ?_
  refine lv_iconst (v := 0) hx hb dX8_wash_6 (by decide) ?_
  refine lv_iconst (v := 2) hx hb dX8_wash_7 (by decide) ?_
  refine zafter_i C hw (zrunS (rest := []) C hml hl.1 hw (c_X8_isIn l D cy ad m1 H.size b 0 2) zv_X8_27 rfl rfl rfl ⟨Nat.le_of_ble_eq_true rfl, Nat.le_of_ble_eq_true rfl⟩ rfl (Nat.le_of_ble_eq_true rfl) dX8_wash_8 ⟨Nat.zero_le _, Nat.zero_le _⟩) (fun r4 m3 H locs h2 hw => ?_)
  obtain ⟨er4, h2⟩ := h2
  rw [h2] at hw
  clear h2 m3
  refine lv_if_ne (tgt := 20) hx hb dX8_wash_11 (by decide) (fun c11_5 => ?_) (fun c11_5 => ?_)
  · skip
    rw [er4] at c11_5
    obtain ⟨ub, ubl, ubu⟩ := q_isIn_ok (x := b) (a := 0) (b := 2) (by decide) (by decide) (fun q => c11_5 q)
    refine lv_iload_n hx hb dX8_wash_20 rfl (lv_at hl 2 rfl) ?_
    refine lv_bipush (v := 10) hx hb dX8_wash_21 (by decide) ?_
    refine lv_bipush (v := 90) hx hb dX8_wash_23 (by decide) ?_
    refine zafter_i C hw (zrunS (rest := []) C hml hl.1 hw (c_X8_isIn l D cy ad m1 H.size x 10 90) zv_X8_27 rfl rfl rfl ⟨Nat.le_of_ble_eq_true rfl, Nat.le_of_ble_eq_true rfl⟩ rfl (Nat.le_of_ble_eq_true rfl) dX8_wash_25 ⟨Nat.zero_le _, Nat.zero_le _⟩) (fun r8 m7 H locs h6 hw => ?_)
    obtain ⟨er8, h6⟩ := h6
    rw [h6] at hw
    clear h6 m7
    refine lv_if_ne (tgt := 37) hx hb dX8_wash_28 (by decide) (fun c28_9 => ?_) (fun c28_9 => ?_)
    · skip
      rw [er8] at c28_9
      refine lv_aload_n hx hb dX8_wash_37 rfl (lv_at hl 0 rfl) ?_
      refine zg_X8_10 C hw (zn12 hL) dX8_wash_38 ?_
      refine lv_iload_n hx hb dX8_wash_41 rfl (lv_at hl 1 rfl) ?_
      refine W.eq (congrArg (fun z : Int32 => F0 mi 42 ls [.int z, .ref (ad (13, 0, 0))]) (show b = nI b.toNatClampNeg from ub)) ?_
      refine zafter_i C hw (zrunV (rest := []) C hml hl.1 hw (zn13 hL (by decide)) rfl rfl (c_X7_inBuddle l D cy ad m1 H.size hL (by decide) b.toNatClampNeg (by omega)) zv_X8_139 rfl rfl rfl ⟨Nat.le_of_ble_eq_true rfl, Nat.le_of_ble_eq_true rfl⟩ rfl (Nat.le_of_ble_eq_true rfl) dX8_wash_42 ⟨Nat.zero_le _, Nat.zero_le _⟩) (fun r12 m11 H locs h10 hw => ?_)
      obtain ⟨er12, h10⟩ := h10
      rw [h10] at hw
      clear h10 m11
      refine lv_if_eq (tgt := 60) hx hb dX8_wash_45 (by decide) (fun c45_13 => ?_) (fun c45_13 => ?_)
      · skip
        rw [er12] at c45_13
        refine lv_aload_n hx hb dX8_wash_60 rfl (lv_at hl 0 rfl) ?_
        refine lv_iconst (v := 3) hx hb dX8_wash_61 (by decide) ?_
        refine zafter_i C hw (zrunV (rest := []) C hml hl.1 hw (zn12 hL) rfl rfl (c_X8_no l D cy ad m1 H.size hL 3) zv_X8_31 rfl rfl rfl ⟨Nat.le_of_ble_eq_true rfl, Nat.le_of_ble_eq_true rfl⟩ rfl (Nat.le_of_ble_eq_true rfl) dX8_wash_62 ⟨Nat.zero_le _, Nat.zero_le _⟩) (fun r16 m15 H locs h14 hw => ?_)
        obtain ⟨er16, em15⟩ := h14
        exact zret_i C hr hlocks hw dX8_wash_65 (by subst_vars; exact zpair ((if_neg c11_5).trans ((if_neg c28_9).trans (if_pos c45_13))))
      · skip
        rw [er12] at c45_13
        refine lv_aload_n hx hb dX8_wash_48 rfl (lv_at hl 0 rfl) ?_
        refine zg_X8_10 C hw (zn12 hL) dX8_wash_49 ?_
        refine zg_X8_79 C hw (zn13 hL (by decide)) dX8_wash_52 ?_
        refine ztop hln1 ?_
        refine lv_bipush (v := 30) hx hb dX8_wash_55 (by decide) ?_
        refine lv_icmp_ne (tgt := 66) hx hb dX8_wash_57 (by decide) (fun c57_17 => ?_) (fun c57_17 => ?_)
        · skip
          have n18 := zne c57_17 (a := ln) (b := 30) rfl rfl (by omega) (by omega)
          refine lv_aload_n hx hb dX8_wash_66 rfl (lv_at hl 0 rfl) ?_
          refine lv_iload_n hx hb dX8_wash_67 rfl (lv_at hl 1 rfl) ?_
          refine lv_iload_n hx hb dX8_wash_68 rfl (lv_at hl 2 rfl) ?_
          refine W.eq (congrArg (fun z : Int32 => F0 mi 69 ls [.int x, .int z, .ref (ad (12, 0, 0))]) (show b = nI b.toNatClampNeg from ub)) ?_
          refine zafter_i C hw (zrunV (rest := []) C hml hl.1 hw (zn12 hL) rfl rfl (c_X8_headTin l D cy ad m1 H.size hL b.toNatClampNeg (by omega) x) zv_X8_142 rfl rfl rfl ⟨Nat.le_of_ble_eq_true rfl, Nat.le_of_ble_eq_true rfl⟩ rfl (Nat.le_of_ble_eq_true rfl) dX8_wash_69 ⟨Nat.zero_le _, Nat.zero_le _⟩) (fun r21 m20 H locs h19 hw => ?_)
          obtain ⟨er21, h19⟩ := h19
          rw [h19] at hw
          clear h19 m20
          refine lv_istore_n (lv' := [(3, .int r21), (0, .ref (ad (12, 0, 0))), (1, .int b), (2, .int x)]) hx hb dX8_wash_72 rfl hl (by decide) rfl (fun ls hl => ?_)
          refine lv_aload_n hx hb dX8_wash_73 rfl (lv_at hl 1 rfl) ?_
          refine lv_iload_n hx hb dX8_wash_74 rfl (lv_at hl 2 rfl) ?_
          refine lv_iload_n hx hb dX8_wash_75 rfl (lv_at hl 3 rfl) ?_
          refine W.eq (congrArg (fun z : Int32 => F0 mi 76 ls [.int x, .int z, .ref (ad (12, 0, 0))]) (show b = nI b.toNatClampNeg from ub)) ?_
          refine zafter_i C hw (zrunV (rest := []) C hml hl.1 hw (zn12 hL) rfl rfl (c_X8_headRock l D cy ad m1 H.size hL b.toNatClampNeg (by omega) x) zv_X8_145 rfl rfl rfl ⟨Nat.le_of_ble_eq_true rfl, Nat.le_of_ble_eq_true rfl⟩ rfl (Nat.le_of_ble_eq_true rfl) dX8_wash_76 ⟨Nat.zero_le _, Nat.zero_le _⟩) (fun r24 m23 H locs h22 hw => ?_)
          obtain ⟨er24, h22⟩ := h22
          rw [h22] at hw
          clear h22 m23
          refine lv_istore (lv' := [(4, .int r24), (3, .int r21), (0, .ref (ad (12, 0, 0))), (1, .int b), (2, .int x)]) hx hb dX8_wash_79 hl (by decide) rfl (fun ls hl => ?_)
          refine lv_aload_n hx hb dX8_wash_81 rfl (lv_at hl 2 rfl) ?_
          refine zg_X8_10 C hw (zn12 hL) dX8_wash_82 ?_
          refine zg_X8_129 C hw (zn13 hL (by decide)) dX8_wash_85 ?_
          refine lv_iconst (v := 2) hx hb dX8_wash_88 (by decide) ?_
          refine lv_iload_n hx hb dX8_wash_89 rfl (lv_at hl 3 rfl) ?_
          refine lv_imul hx hb dX8_wash_90 ?_
          refine lv_iconst (v := 1) hx hb dX8_wash_91 (by decide) ?_
          refine lv_iadd hx hb dX8_wash_92 ?_
          refine zaldN C hw (zq21 (w := 0) hL (by decide)) ((2 * b.toNatClampNeg) + 1) (by omega) (zadd (zmul rfl ub) rfl) (by decide) dX8_wash_93 ?_
          refine lv_iload_n hx hb dX8_wash_94 rfl (lv_at hl 1 rfl) ?_
          refine lv_isub hx hb dX8_wash_95 ?_
          refine lv_topi (fun x25 ex25 => ?_)
          refine lv_istore (lv' := [(5, .int x25), (4, .int r24), (3, .int r21), (0, .ref (ad (12, 0, 0))), (1, .int b), (2, .int x)]) hx hb dX8_wash_96 hl (by decide) rfl (fun ls hl => ?_)
          refine lv_aload_n hx hb dX8_wash_98 rfl (lv_at hl 3 rfl) ?_
          refine zg_X8_10 C hw (zn12 hL) dX8_wash_99 ?_
          refine zg_X8_129 C hw (zn13 hL (by decide)) dX8_wash_102 ?_
          refine lv_iconst (v := 2) hx hb dX8_wash_105 (by decide) ?_
          refine lv_iload_n hx hb dX8_wash_106 rfl (lv_at hl 4 rfl) ?_
          refine lv_imul hx hb dX8_wash_107 ?_
          refine zaldN C hw (zq21 (w := 0) hL (by decide)) (2 * b.toNatClampNeg) (by omega) (zmul rfl ub) (by decide) dX8_wash_108 ?_
          refine lv_iload hx hb dX8_wash_109 (lv_at hl 1 rfl) ?_
          refine lv_isub hx hb dX8_wash_111 ?_
          refine lv_topi (fun x26 ex26 => ?_)
          refine lv_istore (lv' := [(6, .int x26), (5, .int x25), (4, .int r24), (3, .int r21), (0, .ref (ad (12, 0, 0))), (1, .int b), (2, .int x)]) hx hb dX8_wash_112 hl (by decide) rfl (fun ls hl => ?_)
          refine lv_iload hx hb dX8_wash_114 (lv_at hl 1 rfl) ?_
          refine lv_iconst (v := 2) hx hb dX8_wash_116 (by decide) ?_
          refine lv_idiv hx hb dX8_wash_117 (by decide) ?_
          refine lv_iload hx hb dX8_wash_118 (lv_at hl 0 rfl) ?_
          refine lv_iconst (v := 2) hx hb dX8_wash_120 (by decide) ?_
          refine lv_idiv hx hb dX8_wash_121 (by decide) ?_
          refine lv_iadd hx hb dX8_wash_122 ?_
          refine lv_if_le (tgt := 142) hx hb dX8_wash_123 (by decide) (fun c123_27 => ?_) (fun c123_27 => ?_)
          · skip
            refine lv_aload_n hx hb dX8_wash_142 rfl (lv_at hl 4 rfl) ?_
            refine lv_dup hx hb dX8_wash_143 rfl ?_
            refine zg_X8_112 C hw (zn12 hL) dX8_wash_144 ?_
            refine lv_iload hx hb dX8_wash_147 (lv_at hl 1 rfl) ?_
            refine lv_iload hx hb dX8_wash_149 (lv_at hl 1 rfl) ?_
            refine lv_iconst (v := 2) hx hb dX8_wash_151 (by decide) ?_
            refine lv_idiv hx hb dX8_wash_152 (by decide) ?_
            refine lv_isub hx hb dX8_wash_153 ?_
            refine lv_iadd hx hb dX8_wash_154 ?_
            refine zp_X8_112 C hw (zn12 hL) dX8_wash_155 (fun H locs m28 em28 hw => ?_)
            refine lv_aload_n hx hb dX8_wash_158 rfl (lv_at hl 4 rfl) ?_
            refine lv_dup hx hb dX8_wash_159 rfl ?_
            refine zg_X8_115 C hw (zn12 hL) dX8_wash_160 ?_
            refine lv_iload hx hb dX8_wash_163 (lv_at hl 0 rfl) ?_
            refine lv_iload hx hb dX8_wash_165 (lv_at hl 0 rfl) ?_
            refine lv_iconst (v := 2) hx hb dX8_wash_167 (by decide) ?_
            refine lv_idiv hx hb dX8_wash_168 (by decide) ?_
            refine lv_isub hx hb dX8_wash_169 ?_
            refine lv_iadd hx hb dX8_wash_170 ?_
            refine zp_X8_115 C hw (zn12 hL) dX8_wash_171 (fun H locs m29 em29 hw => ?_)
            refine lv_aload_n hx hb dX8_wash_174 rfl (lv_at hl 4 rfl) ?_
            refine zg_X8_19 C hw (zn12 hL) dX8_wash_175 ?_
            refine lv_iconst (v := 0) hx hb dX8_wash_178 (by decide) ?_
            refine lv_dup2_11 hx hb dX8_wash_179 rfl rfl ?_
            refine zaldN C hw (zn2s hL) 0 (by omega) rfl (by decide) dX8_wash_180 ?_
            refine lv_iload hx hb dX8_wash_181 (lv_at hl 2 rfl) ?_
            refine lv_iadd hx hb dX8_wash_183 ?_
            refine zastN C hw (zn2s hL) 0 (by omega) rfl (by decide) dX8_wash_184 (fun H locs m30 em30 hw => ?_)
            refine lv_aload_n hx hb dX8_wash_185 rfl (lv_at hl 4 rfl) ?_
            refine zg_X8_19 C hw (zn12 hL) dX8_wash_186 ?_
            refine lv_iconst (v := 1) hx hb dX8_wash_189 (by decide) ?_
            refine lv_dup2_11 hx hb dX8_wash_190 rfl rfl ?_
            refine zaldN C hw (zn2s hL) 1 (by omega) rfl (by decide) dX8_wash_191 ?_
            refine lv_iload_n hx hb dX8_wash_192 rfl (lv_at hl 3 rfl) ?_
            refine lv_iadd hx hb dX8_wash_193 ?_
            refine zastN C hw (zn2s hL) 1 (by omega) rfl (by decide) dX8_wash_194 (fun H locs m31 em31 hw => ?_)
            refine lv_aload_n hx hb dX8_wash_195 rfl (lv_at hl 4 rfl) ?_
            refine zg_X8_10 C hw (zn12 hL) dX8_wash_196 ?_
            refine zg_X8_129 C hw (zn13 hL (by decide)) dX8_wash_199 ?_
            refine lv_iconst (v := 2) hx hb dX8_wash_202 (by decide) ?_
            refine lv_iload_n hx hb dX8_wash_203 rfl (lv_at hl 5 rfl) ?_
            refine lv_imul hx hb dX8_wash_204 ?_
            refine lv_iconst (v := 0) hx hb dX8_wash_205 (by decide) ?_
            refine zastN C hw (zq21 (w := 0) hL (by decide)) (2 * b.toNatClampNeg) (by omega) (zmul rfl ub) (by decide) dX8_wash_206 (fun H locs m32 em32 hw => ?_)
            refine lv_aload_n hx hb dX8_wash_207 rfl (lv_at hl 4 rfl) ?_
            refine zg_X8_10 C hw (zn12 hL) dX8_wash_208 ?_
            refine zg_X8_129 C hw (zn13 hL (by decide)) dX8_wash_211 ?_
            refine lv_iconst (v := 2) hx hb dX8_wash_214 (by decide) ?_
            refine lv_iload_n hx hb dX8_wash_215 rfl (lv_at hl 5 rfl) ?_
            refine lv_imul hx hb dX8_wash_216 ?_
            refine lv_iconst (v := 1) hx hb dX8_wash_217 (by decide) ?_
            refine lv_iadd hx hb dX8_wash_218 ?_
            refine lv_iconst (v := 0) hx hb dX8_wash_219 (by decide) ?_
            refine zastN C hw (zq21 (w := 0) hL (by decide)) ((2 * b.toNatClampNeg) + 1) (by omega) (zadd (zmul rfl ub) rfl) (by decide) dX8_wash_220 (fun H locs m33 em33 hw => ?_)
            refine lv_iload_n hx hb dX8_wash_221 rfl (lv_at hl 3 rfl) ?_
            exact zret_i C hr hlocks hw dX8_wash_222 (by subst_vars; exact zpair (((if_neg c11_5).trans ((if_neg c28_9).trans ((if_neg c45_13).trans (if_neg c57_17)))).trans (Prod.ext rfl (q8_wash_a c123_27))))
          · skip
            refine lv_aload_n hx hb dX8_wash_126 rfl (lv_at hl 4 rfl) ?_
            refine zg_X8_10 C hw (zn12 hL) dX8_wash_127 ?_
            refine lv_iload hx hb dX8_wash_130 (lv_at hl 0 rfl) ?_
            refine lv_iconst (v := 2) hx hb dX8_wash_132 (by decide) ?_
            refine lv_idiv hx hb dX8_wash_133 (by decide) ?_
            refine lv_iload hx hb dX8_wash_134 (lv_at hl 1 rfl) ?_
            refine lv_iconst (v := 2) hx hb dX8_wash_136 (by decide) ?_
            refine lv_idiv hx hb dX8_wash_137 (by decide) ?_
            refine lv_iconst (v := 1) hx hb dX8_wash_138 (by decide) ?_
            refine zafter_v C hw (zrunV (rest := []) C hml hl.1 hw (zn13 hL (by decide)) rfl rfl (c_X7_addLot l D cy ad m1 H.size hL (by decide) hln1 (by omega) (x26 / 2) (x25 / 2) 1) zv_X8_82 rfl rfl rfl ⟨Nat.le_of_ble_eq_true rfl, Nat.le_of_ble_eq_true rfl⟩ rfl (Nat.le_of_ble_eq_true rfl) dX8_wash_139 ⟨Nat.zero_le _, Nat.zero_le _⟩) (fun m35 H locs h34 hw => ?_)
            have em35 := h34
            refine lv_aload_n hx hb dX8_wash_142 rfl (lv_at hl 4 rfl) ?_
            refine lv_dup hx hb dX8_wash_143 rfl ?_
            refine zg_X8_112 C hw (zn12 hL) dX8_wash_144 ?_
            refine lv_iload hx hb dX8_wash_147 (lv_at hl 1 rfl) ?_
            refine lv_iload hx hb dX8_wash_149 (lv_at hl 1 rfl) ?_
            refine lv_iconst (v := 2) hx hb dX8_wash_151 (by decide) ?_
            refine lv_idiv hx hb dX8_wash_152 (by decide) ?_
            refine lv_isub hx hb dX8_wash_153 ?_
            refine lv_iadd hx hb dX8_wash_154 ?_
            refine zp_X8_112 C hw (zn12 hL) dX8_wash_155 (fun H locs m37 em37 hw => ?_)
            refine lv_aload_n hx hb dX8_wash_158 rfl (lv_at hl 4 rfl) ?_
            refine lv_dup hx hb dX8_wash_159 rfl ?_
            refine zg_X8_115 C hw (zn12 hL) dX8_wash_160 ?_
            refine lv_iload hx hb dX8_wash_163 (lv_at hl 0 rfl) ?_
            refine lv_iload hx hb dX8_wash_165 (lv_at hl 0 rfl) ?_
            refine lv_iconst (v := 2) hx hb dX8_wash_167 (by decide) ?_
            refine lv_idiv hx hb dX8_wash_168 (by decide) ?_
            refine lv_isub hx hb dX8_wash_169 ?_
            refine lv_iadd hx hb dX8_wash_170 ?_
            refine zp_X8_115 C hw (zn12 hL) dX8_wash_171 (fun H locs m38 em38 hw => ?_)
            refine lv_aload_n hx hb dX8_wash_174 rfl (lv_at hl 4 rfl) ?_
            refine zg_X8_19 C hw (zn12 hL) dX8_wash_175 ?_
            refine lv_iconst (v := 0) hx hb dX8_wash_178 (by decide) ?_
            refine lv_dup2_11 hx hb dX8_wash_179 rfl rfl ?_
            refine zaldN C hw (zn2s hL) 0 (by omega) rfl (by decide) dX8_wash_180 ?_
            refine lv_iload hx hb dX8_wash_181 (lv_at hl 2 rfl) ?_
            refine lv_iadd hx hb dX8_wash_183 ?_
            refine zastN C hw (zn2s hL) 0 (by omega) rfl (by decide) dX8_wash_184 (fun H locs m39 em39 hw => ?_)
            refine lv_aload_n hx hb dX8_wash_185 rfl (lv_at hl 4 rfl) ?_
            refine zg_X8_19 C hw (zn12 hL) dX8_wash_186 ?_
            refine lv_iconst (v := 1) hx hb dX8_wash_189 (by decide) ?_
            refine lv_dup2_11 hx hb dX8_wash_190 rfl rfl ?_
            refine zaldN C hw (zn2s hL) 1 (by omega) rfl (by decide) dX8_wash_191 ?_
            refine lv_iload_n hx hb dX8_wash_192 rfl (lv_at hl 3 rfl) ?_
            refine lv_iadd hx hb dX8_wash_193 ?_
            refine zastN C hw (zn2s hL) 1 (by omega) rfl (by decide) dX8_wash_194 (fun H locs m40 em40 hw => ?_)
            refine lv_aload_n hx hb dX8_wash_195 rfl (lv_at hl 4 rfl) ?_
            refine zg_X8_10 C hw (zn12 hL) dX8_wash_196 ?_
            refine zg_X8_129 C hw (zn13 hL (by decide)) dX8_wash_199 ?_
            refine lv_iconst (v := 2) hx hb dX8_wash_202 (by decide) ?_
            refine lv_iload_n hx hb dX8_wash_203 rfl (lv_at hl 5 rfl) ?_
            refine lv_imul hx hb dX8_wash_204 ?_
            refine lv_iconst (v := 0) hx hb dX8_wash_205 (by decide) ?_
            refine zastN C hw (zq21 (w := 0) hL (by decide)) (2 * b.toNatClampNeg) (by omega) (zmul rfl ub) (by decide) dX8_wash_206 (fun H locs m41 em41 hw => ?_)
            refine lv_aload_n hx hb dX8_wash_207 rfl (lv_at hl 4 rfl) ?_
            refine zg_X8_10 C hw (zn12 hL) dX8_wash_208 ?_
            refine zg_X8_129 C hw (zn13 hL (by decide)) dX8_wash_211 ?_
            refine lv_iconst (v := 2) hx hb dX8_wash_214 (by decide) ?_
            refine lv_iload_n hx hb dX8_wash_215 rfl (lv_at hl 5 rfl) ?_
            refine lv_imul hx hb dX8_wash_216 ?_
            refine lv_iconst (v := 1) hx hb dX8_wash_217 (by decide) ?_
            refine lv_iadd hx hb dX8_wash_218 ?_
            refine lv_iconst (v := 0) hx hb dX8_wash_219 (by decide) ?_
            refine zastN C hw (zq21 (w := 0) hL (by decide)) ((2 * b.toNatClampNeg) + 1) (by omega) (zadd (zmul rfl ub) rfl) (by decide) dX8_wash_220 (fun H locs m42 em42 hw => ?_)
            refine lv_iload_n hx hb dX8_wash_221 rfl (lv_at hl 3 rfl) ?_
            exact zret_i C hr hlocks hw dX8_wash_222 (by subst_vars; exact zpair (((if_neg c11_5).trans ((if_neg c28_9).trans ((if_neg c45_13).trans (if_neg c57_17)))).trans (Prod.ext rfl (q8_wash_b c123_27))))
        · skip
          have n43 := zeq c57_17 (a := ln) (b := 30) rfl rfl (by omega) (by omega)
          refine lv_aload_n hx hb dX8_wash_60 rfl (lv_at hl 0 rfl) ?_
          refine lv_iconst (v := 3) hx hb dX8_wash_61 (by decide) ?_
          refine zafter_i C hw (zrunV (rest := []) C hml hl.1 hw (zn12 hL) rfl rfl (c_X8_no l D cy ad m1 H.size hL 3) zv_X8_31 rfl rfl rfl ⟨Nat.le_of_ble_eq_true rfl, Nat.le_of_ble_eq_true rfl⟩ rfl (Nat.le_of_ble_eq_true rfl) dX8_wash_62 ⟨Nat.zero_le _, Nat.zero_le _⟩) (fun r46 m45 H locs h44 hw => ?_)
          obtain ⟨er46, em45⟩ := h44
          exact zret_i C hr hlocks hw dX8_wash_65 (by subst_vars; exact zpair ((if_neg c11_5).trans ((if_neg c28_9).trans ((if_neg c45_13).trans (if_pos c57_17)))))
    · skip
      rw [er8] at c28_9
      refine lv_aload_n hx hb dX8_wash_31 rfl (lv_at hl 0 rfl) ?_
      refine lv_iconst (v := 2) hx hb dX8_wash_32 (by decide) ?_
      refine zafter_i C hw (zrunV (rest := []) C hml hl.1 hw (zn12 hL) rfl rfl (c_X8_no l D cy ad m1 H.size hL 2) zv_X8_31 rfl rfl rfl ⟨Nat.le_of_ble_eq_true rfl, Nat.le_of_ble_eq_true rfl⟩ rfl (Nat.le_of_ble_eq_true rfl) dX8_wash_33 ⟨Nat.zero_le _, Nat.zero_le _⟩) (fun r49 m48 H locs h47 hw => ?_)
      obtain ⟨er49, em48⟩ := h47
      exact zret_i C hr hlocks hw dX8_wash_36 (by subst_vars; exact zpair ((if_neg c11_5).trans (if_pos c28_9)))
  · skip
    rw [er4] at c11_5
    refine lv_aload_n hx hb dX8_wash_14 rfl (lv_at hl 0 rfl) ?_
    refine lv_iconst (v := 1) hx hb dX8_wash_15 (by decide) ?_
    refine zafter_i C hw (zrunV (rest := []) C hml hl.1 hw (zn12 hL) rfl rfl (c_X8_no l D cy ad m1 H.size hL 1) zv_X8_31 rfl rfl rfl ⟨Nat.le_of_ble_eq_true rfl, Nat.le_of_ble_eq_true rfl⟩ rfl (Nat.le_of_ble_eq_true rfl) dX8_wash_16 ⟨Nat.zero_le _, Nat.zero_le _⟩) (fun r52 m51 H locs h50 hw => ?_)
    obtain ⟨er52, em51⟩ := h50
    exact zret_i C hr hlocks hw dX8_wash_19 (by subst_vars; exact zpair (if_pos c11_5))

set_option maxHeartbeats 4000000 in
set_option maxRecDepth 100000 in
theorem c_X8_again (l : Launch) (D : va_G) (cy : Nat → ClassId) (ad : ZN → Nat) (m : ZM) (sz : Nat) {L : List ZN} (hL : zL L) (b : Int32) : Met l yX8_again (zws yX8_again cX8_again 3 (some .int)) ({ frames := 2, cells := 0, slots := 0, locals := 49 } : Room) (zPc D cy ad L m sz [.ref (ad (12, 0, 0)), .int b]) (zQi (fun r m1 => r = (q8_again m b).1 ∧ m1 = (q8_again m b).2) D cy ad L sz) 0 0 (zA ad L sz) := by
  refine zopen (Qc := fun sz => zQi (fun r m1 => r = (q8_again m b).1 ∧ m1 = (q8_again m b).2) D cy ad L sz) RX8 (plainFor_of_name (by decide)) rfl (Nat.le_of_ble_eq_true rfl) ?_
  intro p e s mi below meth c ls C hr hlocks hml hl H locs hw
  obtain ⟨hx, hb, hts, hown, hK, hNw⟩ := id C
  have hl : lv_has ls 3 [(0, .ref (ad (12, 0, 0))), (1, .int b)] := hl
  refine lv_aload_n hx hb dX8_again_0 rfl (lv_at hl 0 rfl) ?_
  refine lv_iconst (v := 0) hx hb dX8_again_1 (by decide) ?_
  refine zp_X8_23 C hw (zn12 hL) dX8_again_2 (fun H locs m1 em1 hw => ?_)
  refine lv_iload_n hx hb dX8_again_5 rfl (lv_at hl 1 rfl) ?_
  refine lv_iconst (v := 0) hx hb dX8_again_6 (by decide) ?_
  refine lv_iconst (v := 2) hx hb dX8_again_7 (by decide) ?_
  refine zafter_i C hw (zrunS (rest := []) C hml hl.1 hw (c_X8_isIn l D cy ad m1 H.size b 0 2) zv_X8_27 rfl rfl rfl ⟨Nat.le_of_ble_eq_true rfl, Nat.le_of_ble_eq_true rfl⟩ rfl (Nat.le_of_ble_eq_true rfl) dX8_again_8 ⟨Nat.zero_le _, Nat.zero_le _⟩) (fun r4 m3 H locs h2 hw => ?_)
  obtain ⟨er4, h2⟩ := h2
  rw [h2] at hw
  clear h2 m3
  refine lv_if_ne (tgt := 20) hx hb dX8_again_11 (by decide) (fun c11_5 => ?_) (fun c11_5 => ?_)
  · skip
    rw [er4] at c11_5
    obtain ⟨ub, ubl, ubu⟩ := q_isIn_ok (x := b) (a := 0) (b := 2) (by decide) (by decide) (fun q => c11_5 q)
    refine lv_aload_n hx hb dX8_again_20 rfl (lv_at hl 0 rfl) ?_
    refine zg_X8_19 C hw (zn12 hL) dX8_again_21 ?_
    refine lv_iconst (v := 0) hx hb dX8_again_24 (by decide) ?_
    refine zaldN C hw (zn2s hL) 0 (by omega) rfl (by decide) dX8_again_25 ?_
    refine lv_aload_n hx hb dX8_again_26 rfl (lv_at hl 0 rfl) ?_
    refine zg_X8_19 C hw (zn12 hL) dX8_again_27 ?_
    refine lv_iconst (v := 1) hx hb dX8_again_30 (by decide) ?_
    refine zaldN C hw (zn2s hL) 1 (by omega) rfl (by decide) dX8_again_31 ?_
    refine lv_iadd hx hb dX8_again_32 ?_
    refine lv_sipush (v := 6000) hx hb dX8_again_33 (by decide) ?_
    refine lv_aload_n hx hb dX8_again_36 rfl (lv_at hl 0 rfl) ?_
    refine zg_X8_10 C hw (zn12 hL) dX8_again_37 ?_
    refine lv_iload_n hx hb dX8_again_40 rfl (lv_at hl 1 rfl) ?_
    refine W.eq (congrArg (fun z : Int32 => F0 mi 41 ls [.int z, .ref (ad (13, 0, 0)), .int 6000, .int ((m1 (2, 60, 2) 0) + (m1 (2, 60, 2) 1))]) (show b = nI b.toNatClampNeg from ub)) ?_
    refine zafter_i C hw (zrunV (rest := [.int 6000, .int ((m1 (2, 60, 2) 0) + (m1 (2, 60, 2) 1))]) C hml hl.1 hw (zn13 hL (by decide)) rfl rfl (c_X7_inBuddle l D cy ad m1 H.size hL (by decide) b.toNatClampNeg (by omega)) zv_X8_139 rfl rfl rfl ⟨Nat.le_of_ble_eq_true rfl, Nat.le_of_ble_eq_true rfl⟩ rfl (Nat.le_of_ble_eq_true rfl) dX8_again_41 ⟨Nat.zero_le _, Nat.zero_le _⟩) (fun r8 m7 H locs h6 hw => ?_)
    obtain ⟨er8, h6⟩ := h6
    rw [h6] at hw
    clear h6 m7
    refine lv_isub hx hb dX8_again_44 ?_
    refine va_mmin hx hb (hml.trans hl.1.symm) hown (hts _ zL_X8_148) (hts _ zT_min) (hts _ zN_Math) (hts _ zO_min) (Nat.le_of_ble_eq_true rfl) (Nat.le_of_ble_eq_true rfl) (Nat.zero_le _) (Nat.zero_le _) dX8_again_45 ?_
    refine lv_topi (fun x9 ex9 => ?_)
    refine lv_istore_n (lv' := [(2, .int x9), (0, .ref (ad (12, 0, 0))), (1, .int b)]) hx hb dX8_again_48 rfl hl (by decide) rfl (fun ls hl => ?_)
    refine lv_aload_n hx hb dX8_again_49 rfl (lv_at hl 1 rfl) ?_
    refine zg_X8_19 C hw (zn12 hL) dX8_again_50 ?_
    refine lv_iconst (v := 0) hx hb dX8_again_53 (by decide) ?_
    refine lv_aload_n hx hb dX8_again_54 rfl (lv_at hl 1 rfl) ?_
    refine zg_X8_10 C hw (zn12 hL) dX8_again_55 ?_
    refine zg_X8_129 C hw (zn13 hL (by decide)) dX8_again_58 ?_
    refine lv_iconst (v := 2) hx hb dX8_again_61 (by decide) ?_
    refine lv_iload_n hx hb dX8_again_62 rfl (lv_at hl 2 rfl) ?_
    refine lv_imul hx hb dX8_again_63 ?_
    refine lv_iload_n hx hb dX8_again_64 rfl (lv_at hl 0 rfl) ?_
    refine W.eq (congrArg (fun z : Int32 => F0 mi 65 ls [.int x9, .int z, .ref (ad (2, 21 + 20 * 0, 6)), .int 0, .ref (ad (2, 60, 2))]) (show (2 * b) = nI (2 * b.toNatClampNeg) from (zmul rfl ub))) ?_
    refine zafter_v C hw (zrunS (rest := []) C hml hl.1 hw (c_X7_move l D cy ad m1 H.size (zn2s hL) (by decide) (zq21 (w := 0) hL (by decide)) (by decide) 0 (2 * b.toNatClampNeg) (by omega) (by omega) x9) zv_X8_153 rfl rfl rfl ⟨Nat.le_of_ble_eq_true rfl, Nat.le_of_ble_eq_true rfl⟩ rfl (Nat.le_of_ble_eq_true rfl) dX8_again_65 ⟨Nat.zero_le _, Nat.zero_le _⟩) (fun m11 H locs h10 hw => ?_)
    have em11 := h10
    refine lv_iload_n hx hb dX8_again_68 rfl (lv_at hl 0 rfl) ?_
    exact zret_i C hr hlocks hw dX8_again_69 (by subst_vars; exact zpair (if_neg c11_5))
  · skip
    rw [er4] at c11_5
    refine lv_aload_n hx hb dX8_again_14 rfl (lv_at hl 0 rfl) ?_
    refine lv_iconst (v := 1) hx hb dX8_again_15 (by decide) ?_
    refine zafter_i C hw (zrunV (rest := []) C hml hl.1 hw (zn12 hL) rfl rfl (c_X8_no l D cy ad m1 H.size hL 1) zv_X8_31 rfl rfl rfl ⟨Nat.le_of_ble_eq_true rfl, Nat.le_of_ble_eq_true rfl⟩ rfl (Nat.le_of_ble_eq_true rfl) dX8_again_16 ⟨Nat.zero_le _, Nat.zero_le _⟩) (fun r15 m14 H locs h13 hw => ?_)
    obtain ⟨er15, em14⟩ := h13
    exact zret_i C hr hlocks hw dX8_again_19 (by subst_vars; exact zpair (if_pos c11_5))

set_option maxHeartbeats 4000000 in
set_option maxRecDepth 100000 in
theorem c_X8_smelt (l : Launch) (D : va_G) (cy : Nat → ClassId) (ad : ZN → Nat) (m : ZM) (sz : Nat) {L : List ZN} (hL : zL L) (hn1 : (2, 71, 2) ∉ L) (x : Int32) : Met l yX8_smelt (zws yX8_smelt cX8_smelt 4 (some .int)) ({ frames := 2, cells := 1, slots := 2, locals := 49 } : Room) (zPc D cy ad L m sz [.ref (ad (12, 0, 0)), .int x]) (zQi (fun r m1 => r = (q8_smelt m x).1 ∧ m1 = (q8_smelt m x).2) D cy ad L sz) 1 2 (zA ad L sz) := by
  refine zopen (Qc := fun sz => zQi (fun r m1 => r = (q8_smelt m x).1 ∧ m1 = (q8_smelt m x).2) D cy ad L sz) RX8 (plainFor_of_name (by decide)) rfl (Nat.le_of_ble_eq_true rfl) ?_
  intro p e s mi below meth c ls C hr hlocks hml hl H locs hw
  obtain ⟨hx, hb, hts, hown, hK, hNw⟩ := id C
  have hl : lv_has ls 4 [(0, .ref (ad (12, 0, 0))), (1, .int x)] := hl
  refine lv_aload_n hx hb dX8_smelt_0 rfl (lv_at hl 0 rfl) ?_
  refine lv_iconst (v := 0) hx hb dX8_smelt_1 (by decide) ?_
  refine zp_X8_23 C hw (zn12 hL) dX8_smelt_2 (fun H locs m1 em1 hw => ?_)
  refine lv_iload_n hx hb dX8_smelt_5 rfl (lv_at hl 1 rfl) ?_
  refine lv_iconst (v := 1) hx hb dX8_smelt_6 (by decide) ?_
  refine lv_icmp_ge (tgt := 16) hx hb dX8_smelt_7 (by decide) (fun c7_2 => ?_) (fun c7_2 => ?_)
  · skip
    refine lv_iload_n hx hb dX8_smelt_16 rfl (lv_at hl 1 rfl) ?_
    refine lv_aload_n hx hb dX8_smelt_17 rfl (lv_at hl 0 rfl) ?_
    refine zg_X8_19 C hw (zn12 hL) dX8_smelt_18 ?_
    refine lv_iconst (v := 0) hx hb dX8_smelt_21 (by decide) ?_
    refine zaldN C hw (zn2s hL) 0 (by omega) rfl (by decide) dX8_smelt_22 ?_
    refine lv_aload_n hx hb dX8_smelt_23 rfl (lv_at hl 0 rfl) ?_
    refine zg_X8_19 C hw (zn12 hL) dX8_smelt_24 ?_
    refine lv_iconst (v := 1) hx hb dX8_smelt_27 (by decide) ?_
    refine zaldN C hw (zn2s hL) 1 (by omega) rfl (by decide) dX8_smelt_28 ?_
    refine lv_iadd hx hb dX8_smelt_29 ?_
    refine lv_icmp_le (tgt := 39) hx hb dX8_smelt_30 (by decide) (fun c30_3 => ?_) (fun c30_3 => ?_)
    · skip
      have hn0 := hn1
      refine lv_iconst (v := 2) hx hb dX8_smelt_39 (by decide) ?_
      refine znewa (id := 71) (len := 2) C hw hn0 (by decide) rfl (by decide) zW_int (Nat.le_of_ble_eq_true rfl) (Nat.le_of_ble_eq_true rfl) dX8_smelt_40 (fun ad1 H m4 em4 hsame hfresh hw => ?_)
      have hL : zL (L ++ [(2, 71, 2)]) := fun n hn => List.mem_append_left _ (hL n hn)
      have hm4 : ∀ n : ZN, n ≠ (2, 71, 2) → m4 n = m1 n := fun n hn => by rw [em4]; exact zu_ne hn
      rw [← hsame (12, 0, 0) (by decide)] at hl
      refine lv_astore_n (lv' := [(2, .ref (ad1 (2, 71, 2))), (0, .ref (ad1 (12, 0, 0))), (1, .int x)]) hx hb dX8_smelt_42 rfl hl (by decide) rfl (fun ls hl => ?_)
      refine lv_aload_n hx hb dX8_smelt_43 rfl (lv_at hl 1 rfl) ?_
      refine zg_X8_19 C hw (zn12 hL) dX8_smelt_44 ?_
      refine lv_iconst (v := 0) hx hb dX8_smelt_47 (by decide) ?_
      refine lv_aload_n hx hb dX8_smelt_48 rfl (lv_at hl 0 rfl) ?_
      refine lv_iconst (v := 0) hx hb dX8_smelt_49 (by decide) ?_
      refine lv_iload_n hx hb dX8_smelt_50 rfl (lv_at hl 2 rfl) ?_
      refine zafter_v C hw (zrunS (rest := []) C hml hl.1 hw (c_X7_move l D cy ad1 m4 H.size (zn2s hL) (by decide) (List.mem_append_right _ (List.mem_singleton.mpr rfl)) (by decide) 0 0 (by decide) (by decide) x) zv_X8_153 rfl rfl rfl ⟨Nat.le_of_ble_eq_true rfl, Nat.le_of_ble_eq_true rfl⟩ rfl (Nat.le_of_ble_eq_true rfl) dX8_smelt_51 ⟨Nat.le_of_ble_eq_true rfl, Nat.le_of_ble_eq_true rfl⟩) (fun m6 H locs h5 hw => ?_)
      have em6 := h5
      have f1 : m6 (2, 71, 2) 0 = 0 + (x - q_tinOf (m1 (2, 60, 2) 0) (m1 (2, 60, 2) 1) x) := by rw [em6]; exact q8_taken0 em4
      have f2 : m6 (2, 71, 2) 1 = 0 + q_tinOf (m1 (2, 60, 2) 0) (m1 (2, 60, 2) 1) x := by rw [em6]; exact q8_taken1 em4
      have f3 : ∀ k : ZN, k ≠ (2, 71, 2) → m6 k = q8_take m1 x k := fun k hk => by rw [em6]; exact q8_taken2 em4 hk
      refine lv_aload_n hx hb dX8_smelt_54 rfl (lv_at hl 0 rfl) ?_
      refine lv_iconst (v := 0) hx hb dX8_smelt_55 (by decide) ?_
      refine zaldN C hw (List.mem_append_right _ (List.mem_singleton.mpr rfl)) 0 (by omega) rfl (by decide) dX8_smelt_56 ?_
      refine ztop f1 ?_
      refine lv_i2l hx hb dX8_smelt_57 rfl ?_
      refine lv_aload_n hx hb dX8_smelt_58 rfl (lv_at hl 0 rfl) ?_
      refine lv_iconst (v := 1) hx hb dX8_smelt_59 (by decide) ?_
      refine zaldN C hw (List.mem_append_right _ (List.mem_singleton.mpr rfl)) 1 (by omega) rfl (by decide) dX8_smelt_60 ?_
      refine ztop f2 ?_
      refine lv_i2l hx hb dX8_smelt_61 rfl ?_
      refine zafter_i C hw (zrunS (rest := []) C hml hl.1 hw (c_X8_grade l D cy ad1 m6 H.size (0 + (x - q_tinOf (m1 (2, 60, 2) 0) (m1 (2, 60, 2) 1) x)).toInt64 (0 + q_tinOf (m1 (2, 60, 2) 0) (m1 (2, 60, 2) 1) x).toInt64) zv_X8_132 rfl rfl rfl ⟨Nat.le_of_ble_eq_true rfl, Nat.le_of_ble_eq_true rfl⟩ rfl (Nat.le_of_ble_eq_true rfl) dX8_smelt_62 ⟨Nat.le_of_ble_eq_true rfl, Nat.le_of_ble_eq_true rfl⟩) (fun r10 m9 H locs h8 hw => ?_)
      obtain ⟨er10, h8⟩ := h8
      rw [h8] at hw
      clear h8 m9
      refine lv_sipush (v := 400) hx hb dX8_smelt_65 (by decide) ?_
      refine lv_icmp_lt (tgt := 83) hx hb dX8_smelt_68 (by decide) (fun c68_11 => ?_) (fun c68_11 => ?_)
      · skip
        rw [er10] at c68_11
        refine lv_iconst (v := 0) hx hb dX8_smelt_83 (by decide) ?_
        refine lv_istore_n (lv' := [(3, .int 0), (2, .ref (ad1 (2, 71, 2))), (0, .ref (ad1 (12, 0, 0))), (1, .int x)]) hx hb dX8_smelt_84 rfl hl (by decide) rfl (fun ls hl => ?_)
        refine lv_aload_n hx hb dX8_smelt_85 rfl (lv_at hl 2 rfl) ?_
        refine lv_dup hx hb dX8_smelt_86 rfl ?_
        refine zg_X8_118 C hw (zn12 hL) dX8_smelt_87 ?_
        refine ztop ((congrFun (f3 (12, 0, 0) (by decide)) 6).trans (q8_take_k (zk rfl) 6)) ?_
        refine lv_iload_n hx hb dX8_smelt_90 rfl (lv_at hl 0 rfl) ?_
        refine lv_iadd hx hb dX8_smelt_91 ?_
        refine zp_X8_118 C hw (zn12 hL) dX8_smelt_92 (fun H locs m12 em12 hw => ?_)
        have hw := zH_drop (n0 := (2, 71, 2)) (m := zs (q8_take m1 x) (12, 0, 0) 6 (m1 (12, 0, 0) 6 + 0)) ⟨rfl, Or.inr rfl⟩ hn1 hsame hfresh (fun k hk => by rw [em12]; exact zs_cong (f3 k hk)) hw
        refine lv_iload_n hx hb dX8_smelt_95 rfl (lv_at hl 0 rfl) ?_
        refine W.widen (k := 1) (n := 2) (by omega) (by omega) ?_
        exact zret_i C hr hlocks hw dX8_smelt_96 (by subst_vars; exact zpair ((if_pos c7_2).trans ((if_pos c30_3).trans (if_pos c68_11))))
      · skip
        rw [er10] at c68_11
        refine lv_aload_n hx hb dX8_smelt_71 rfl (lv_at hl 0 rfl) ?_
        refine lv_iconst (v := 1) hx hb dX8_smelt_72 (by decide) ?_
        refine zaldN C hw (List.mem_append_right _ (List.mem_singleton.mpr rfl)) 1 (by omega) rfl (by decide) dX8_smelt_73 ?_
        refine ztop f2 ?_
        refine lv_bipush (v := 9) hx hb dX8_smelt_74 (by decide) ?_
        refine lv_imul hx hb dX8_smelt_76 ?_
        refine lv_bipush (v := 10) hx hb dX8_smelt_77 (by decide) ?_
        refine lv_idiv hx hb dX8_smelt_79 (by decide) ?_
        refine lv_goto (tgt := 84) hx hb dX8_smelt_80 (by decide) ?_
        refine lv_topi (fun x13 ex13 => ?_)
        refine lv_istore_n (lv' := [(3, .int x13), (2, .ref (ad1 (2, 71, 2))), (0, .ref (ad1 (12, 0, 0))), (1, .int x)]) hx hb dX8_smelt_84 rfl hl (by decide) rfl (fun ls hl => ?_)
        refine lv_aload_n hx hb dX8_smelt_85 rfl (lv_at hl 2 rfl) ?_
        refine lv_dup hx hb dX8_smelt_86 rfl ?_
        refine zg_X8_118 C hw (zn12 hL) dX8_smelt_87 ?_
        refine ztop ((congrFun (f3 (12, 0, 0) (by decide)) 6).trans (q8_take_k (zk rfl) 6)) ?_
        refine lv_iload_n hx hb dX8_smelt_90 rfl (lv_at hl 0 rfl) ?_
        refine lv_iadd hx hb dX8_smelt_91 ?_
        refine zp_X8_118 C hw (zn12 hL) dX8_smelt_92 (fun H locs m14 em14 hw => ?_)
        have hw := zH_drop (n0 := (2, 71, 2)) (m := zs (q8_take m1 x) (12, 0, 0) 6 (m1 (12, 0, 0) 6 + x13)) ⟨rfl, Or.inr rfl⟩ hn1 hsame hfresh (fun k hk => by rw [em14]; exact zs_cong (f3 k hk)) hw
        refine lv_iload_n hx hb dX8_smelt_95 rfl (lv_at hl 0 rfl) ?_
        refine W.widen (k := 1) (n := 2) (by omega) (by omega) ?_
        exact zret_i C hr hlocks hw dX8_smelt_96 (by subst_vars; exact zpair ((if_pos c7_2).trans ((if_pos c30_3).trans (if_neg c68_11))))
    · skip
      refine lv_aload_n hx hb dX8_smelt_33 rfl (lv_at hl 0 rfl) ?_
      refine lv_iconst (v := 2) hx hb dX8_smelt_34 (by decide) ?_
      refine zafter_i C hw (zrunV (rest := []) C hml hl.1 hw (zn12 hL) rfl rfl (c_X8_no l D cy ad1 m1 H.size hL 2) zv_X8_31 rfl rfl rfl ⟨Nat.le_of_ble_eq_true rfl, Nat.le_of_ble_eq_true rfl⟩ rfl (Nat.le_of_ble_eq_true rfl) dX8_smelt_35 ⟨Nat.zero_le _, Nat.zero_le _⟩) (fun r17 m16 H locs h15 hw => ?_)
      obtain ⟨er17, em16⟩ := h15
      refine W.widen (k := 1) (n := 2) (by omega) (by omega) ?_
      exact zret_i C hr hlocks hw dX8_smelt_38 (by subst_vars; exact zpair ((if_pos c7_2).trans (if_neg c30_3)))
  · skip
    refine lv_aload_n hx hb dX8_smelt_10 rfl (lv_at hl 0 rfl) ?_
    refine lv_iconst (v := 1) hx hb dX8_smelt_11 (by decide) ?_
    refine zafter_i C hw (zrunV (rest := []) C hml hl.1 hw (zn12 hL) rfl rfl (c_X8_no l D cy ad1 m1 H.size hL 1) zv_X8_31 rfl rfl rfl ⟨Nat.le_of_ble_eq_true rfl, Nat.le_of_ble_eq_true rfl⟩ rfl (Nat.le_of_ble_eq_true rfl) dX8_smelt_12 ⟨Nat.zero_le _, Nat.zero_le _⟩) (fun r20 m19 H locs h18 hw => ?_)
    obtain ⟨er20, em19⟩ := h18
    refine W.widen (k := 1) (n := 2) (by omega) (by omega) ?_
    exact zret_i C hr hlocks hw dX8_smelt_15 (by subst_vars; exact zpair (if_neg c7_2))

set_option maxHeartbeats 4000000 in
set_option maxRecDepth 100000 in
theorem c_X8_foresee (l : Launch) (D : va_G) (cy : Nat → ClassId) (ad : ZN → Nat) (m : ZM) (sz : Nat) {L : List ZN} (hL : zL L) {bc : Nat} {sc go : Nat → Nat} {hq ln : Nat} (G : gM m bc sc go hq ln) (lq : hq ≤ 5000) (h k : Int32) : Met l yX8_foresee (zws yX8_foresee cX8_foresee 4 (some .int)) ({ frames := 5, cells := 0, slots := 0, locals := 122 } : Room) (zPc D cy ad L m sz [.ref (ad (12, 0, 0)), .int h, .int k]) (zQi (fun r m1 => r = (q8_foresee m bc sc go hq h k).1 ∧ m1 = (q8_foresee m bc sc go hq h k).2) D cy ad L sz) 0 0 (zA ad L sz) := by
  refine zopen (Qc := fun sz => zQi (fun r m1 => r = (q8_foresee m bc sc go hq h k).1 ∧ m1 = (q8_foresee m bc sc go hq h k).2) D cy ad L sz) RX8 (plainFor_of_name (by decide)) rfl (Nat.le_of_ble_eq_true rfl) ?_
  intro p e s mi below meth c ls C hr hlocks hml hl H locs hw
  obtain ⟨hx, hb, hts, hown, hK, hNw⟩ := id C
  have hl : lv_has ls 4 [(0, .ref (ad (12, 0, 0))), (1, .int h), (2, .int k)] := hl
  refine lv_aload_n hx hb dX8_foresee_0 rfl (lv_at hl 0 rfl) ?_
  refine lv_iconst (v := 0) hx hb dX8_foresee_1 (by decide) ?_
  refine zp_X8_23 C hw (zn12 hL) dX8_foresee_2 (fun H locs m1 em1 hw => ?_)
  have GM1 : gM m1 bc sc go hq ln := by rw [em1]; exact gM_t G
  obtain ⟨⟨hbc1, lbc1, hbx1, hhd1, -, hhq1, lhq1, hld1⟩, hln1, lln1⟩ := id GM1
  refine lv_iload_n hx hb dX8_foresee_5 rfl (lv_at hl 1 rfl) ?_
  refine lv_iconst (v := 1) hx hb dX8_foresee_6 (by decide) ?_
  refine lv_bipush (v := 100) hx hb dX8_foresee_7 (by decide) ?_
  refine zafter_i C hw (zrunS (rest := []) C hml hl.1 hw (c_X8_isIn l D cy ad m1 H.size h 1 100) zv_X8_27 rfl rfl rfl ⟨Nat.le_of_ble_eq_true rfl, Nat.le_of_ble_eq_true rfl⟩ rfl (Nat.le_of_ble_eq_true rfl) dX8_foresee_9 ⟨Nat.zero_le _, Nat.zero_le _⟩) (fun r4 m3 H locs h2 hw => ?_)
  obtain ⟨er4, h2⟩ := h2
  rw [h2] at hw
  clear h2 m3
  refine lv_if_ne (tgt := 21) hx hb dX8_foresee_12 (by decide) (fun c12_5 => ?_) (fun c12_5 => ?_)
  · skip
    rw [er4] at c12_5
    obtain ⟨uh, uhl, uhu⟩ := q_isIn_ok (x := h) (a := 1) (b := 100) (by decide) (by decide) (fun q => c12_5 q)
    refine lv_iload_n hx hb dX8_foresee_21 rfl (lv_at hl 2 rfl) ?_
    refine lv_iconst (v := 0) hx hb dX8_foresee_22 (by decide) ?_
    refine lv_iconst (v := 4) hx hb dX8_foresee_23 (by decide) ?_
    refine zafter_i C hw (zrunS (rest := []) C hml hl.1 hw (c_X8_isIn l D cy ad m1 H.size k 0 4) zv_X8_27 rfl rfl rfl ⟨Nat.le_of_ble_eq_true rfl, Nat.le_of_ble_eq_true rfl⟩ rfl (Nat.le_of_ble_eq_true rfl) dX8_foresee_24 ⟨Nat.zero_le _, Nat.zero_le _⟩) (fun r8 m7 H locs h6 hw => ?_)
    obtain ⟨er8, h6⟩ := h6
    rw [h6] at hw
    clear h6 m7
    refine lv_if_ne (tgt := 36) hx hb dX8_foresee_27 (by decide) (fun c27_9 => ?_) (fun c27_9 => ?_)
    · skip
      rw [er8] at c27_9
      refine lv_aload_n hx hb dX8_foresee_36 rfl (lv_at hl 0 rfl) ?_
      refine zg_X8_10 C hw (zn12 hL) dX8_foresee_37 ?_
      refine zg_X8_93 C hw (zn13 hL (by decide)) dX8_foresee_40 ?_
      refine ztop hhq1 ?_
      refine lv_iload_n hx hb dX8_foresee_43 rfl (lv_at hl 1 rfl) ?_
      refine lv_iadd hx hb dX8_foresee_44 ?_
      refine lv_sipush (v := 5000) hx hb dX8_foresee_45 (by decide) ?_
      refine lv_icmp_le (tgt := 57) hx hb dX8_foresee_48 (by decide) (fun c48_10 => ?_) (fun c48_10 => ?_)
      · skip
        have n11 := zle c48_10 (a := (hq + h.toNatClampNeg)) (b := 5000) (zadd rfl uh) rfl (by omega) (by omega)
        refine lv_aload_n hx hb dX8_foresee_57 rfl (lv_at hl 0 rfl) ?_
        refine zg_X8_16 C hw (zn12 hL) dX8_foresee_58 ?_
        refine lv_aload_n hx hb dX8_foresee_61 rfl (lv_at hl 0 rfl) ?_
        refine zg_X8_10 C hw (zn12 hL) dX8_foresee_62 ?_
        refine zafter_v C hw (zrunV (rest := []) C hml hl.1 hw (zn13 hL (by decide)) rfl rfl (c_X7_become l D cy ad m1 H.size hL (by decide) (by decide)) zv_X8_157 rfl rfl rfl ⟨Nat.le_of_ble_eq_true rfl, Nat.le_of_ble_eq_true rfl⟩ rfl (Nat.le_of_ble_eq_true rfl) dX8_foresee_65 ⟨Nat.zero_le _, Nat.zero_le _⟩) (fun m13 H locs h12 hw => ?_)
        have em13 := h12
        have GA : gS m13 1 bc sc go hq := by rw [em13]; exact gS_become GM1.1
        refine lv_aload_n hx hb dX8_foresee_68 rfl (lv_at hl 0 rfl) ?_
        refine zg_X8_16 C hw (zn12 hL) dX8_foresee_69 ?_
        refine lv_iload_n hx hb dX8_foresee_72 rfl (lv_at hl 1 rfl) ?_
        refine W.eq (congrArg (fun z : Int32 => F0 mi 73 ls [.int z, .ref (ad (13, 1, 0))]) (show h = nI h.toNatClampNeg from uh)) ?_
        refine zafter_i C hw (zrunS (rest := []) C hml hl.1 hw (c_X8_run l D cy ad m13 H.size hL (by decide) GA h.toNatClampNeg (by omega) (by omega)) zv_X8_96 rfl rfl rfl ⟨Nat.le_of_ble_eq_true rfl, Nat.le_of_ble_eq_true rfl⟩ rfl (Nat.le_of_ble_eq_true rfl) dX8_foresee_73 ⟨Nat.zero_le _, Nat.zero_le _⟩) (fun r17 m16 H locs h15 hw => ?_)
        obtain ⟨er17, em16⟩ := h15
        have GB : gS m16 1 bc sc go (hq + h.toNatClampNeg) := by rw [em16]; exact gS_run GA (by omega)
        obtain ⟨-, -, -, -, ⟨lnB, hlnB, llnB, -⟩, -⟩ := id GB
        refine lv_istore_n (lv' := [(3, .int r17), (0, .ref (ad (12, 0, 0))), (1, .int h), (2, .int k)]) hx hb dX8_foresee_76 rfl hl (by decide) rfl (fun ls hl => ?_)
        refine lv_iload_n hx hb dX8_foresee_77 rfl (lv_at hl 3 rfl) ?_
        refine lv_if_ne (tgt := 85) hx hb dX8_foresee_78 (by decide) (fun c78_18 => ?_) (fun c78_18 => ?_)
        · skip
          refine lv_iload_n hx hb dX8_foresee_85 rfl (lv_at hl 3 rfl) ?_
          refine lv_iconst (v := 1) hx hb dX8_foresee_86 (by decide) ?_
          refine lv_icmp_ne (tgt := 100) hx hb dX8_foresee_87 (by decide) (fun c87_19 => ?_) (fun c87_19 => ?_)
          · skip
            refine lv_iload_n hx hb dX8_foresee_100 rfl (lv_at hl 3 rfl) ?_
            refine lv_iconst (v := 2) hx hb dX8_foresee_101 (by decide) ?_
            refine lv_icmp_ne (tgt := 115) hx hb dX8_foresee_102 (by decide) (fun c102_20 => ?_) (fun c102_20 => ?_)
            · skip
              refine lv_iload_n hx hb dX8_foresee_115 rfl (lv_at hl 3 rfl) ?_
              refine lv_iconst (v := 3) hx hb dX8_foresee_116 (by decide) ?_
              refine lv_icmp_ne (tgt := 138) hx hb dX8_foresee_117 (by decide) (fun c117_21 => ?_) (fun c117_21 => ?_)
              · skip
                refine lv_aload_n hx hb dX8_foresee_138 rfl (lv_at hl 1 rfl) ?_
                refine zg_X8_16 C hw (zn12 hL) dX8_foresee_139 ?_
                refine zafter_i C hw (zrunV (rest := []) C hml hl.1 hw (zn13 hL (by decide)) rfl rfl (c_X7_inHopper l D cy ad m16 H.size hL (by decide) hlnB llnB) zv_X8_103 rfl rfl rfl ⟨Nat.le_of_ble_eq_true rfl, Nat.le_of_ble_eq_true rfl⟩ rfl (Nat.le_of_ble_eq_true rfl) dX8_foresee_142 ⟨Nat.zero_le _, Nat.zero_le _⟩) (fun r24 m23 H locs h22 hw => ?_)
                obtain ⟨er24, h22⟩ := h22
                rw [h22] at hw
                clear h22 m23
                exact zret_i C hr hlocks hw dX8_foresee_145 (by have hB : (m16 (13, 1, 0) 14).toNatClampNeg = lnB := (by rw [hlnB]; exact nI_clamp (by omega)); subst hB; subst_vars; exact zpair ((if_neg c12_5).trans ((if_neg c27_9).trans ((if_pos c48_10).trans ((if_neg c78_18).trans ((if_neg c87_19).trans ((if_neg c102_20).trans (if_neg c117_21))))))))
              · skip
                refine lv_aload_n hx hb dX8_foresee_120 rfl (lv_at hl 1 rfl) ?_
                refine zg_X8_16 C hw (zn12 hL) dX8_foresee_121 ?_
                refine zg_X8_109 C hw (zn13 hL (by decide)) dX8_foresee_124 ?_
                refine lv_aload_n hx hb dX8_foresee_127 rfl (lv_at hl 1 rfl) ?_
                refine zg_X8_10 C hw (zn12 hL) dX8_foresee_128 ?_
                refine zg_X8_109 C hw (zn13 hL (by decide)) dX8_foresee_131 ?_
                refine lv_isub hx hb dX8_foresee_134 ?_
                refine lv_goto (tgt := 145) hx hb dX8_foresee_135 (by decide) ?_
                exact zret_i C hr hlocks hw dX8_foresee_145 (by subst_vars; exact zpair ((if_neg c12_5).trans ((if_neg c27_9).trans ((if_pos c48_10).trans ((if_neg c78_18).trans ((if_neg c87_19).trans ((if_neg c102_20).trans (if_pos c117_21))))))))
            · skip
              refine lv_aload_n hx hb dX8_foresee_105 rfl (lv_at hl 1 rfl) ?_
              refine zg_X8_16 C hw (zn12 hL) dX8_foresee_106 ?_
              refine zafter_i C hw (zrunV (rest := []) C hml hl.1 hw (zn13 hL (by decide)) rfl rfl (c_X7_tinInBuddles l D cy ad m16 H.size hL (by decide)) zv_X8_161 rfl rfl rfl ⟨Nat.le_of_ble_eq_true rfl, Nat.le_of_ble_eq_true rfl⟩ rfl (Nat.le_of_ble_eq_true rfl) dX8_foresee_109 ⟨Nat.zero_le _, Nat.zero_le _⟩) (fun r27 m26 H locs h25 hw => ?_)
              obtain ⟨er27, h25⟩ := h25
              rw [h25] at hw
              clear h25 m26
              refine lv_goto (tgt := 145) hx hb dX8_foresee_112 (by decide) ?_
              exact zret_i C hr hlocks hw dX8_foresee_145 (by subst_vars; exact zpair ((if_neg c12_5).trans ((if_neg c27_9).trans ((if_pos c48_10).trans ((if_neg c78_18).trans ((if_neg c87_19).trans (if_pos c102_20)))))))
          · skip
            refine lv_aload_n hx hb dX8_foresee_90 rfl (lv_at hl 1 rfl) ?_
            refine zg_X8_16 C hw (zn12 hL) dX8_foresee_91 ?_
            refine zg_X8_100 C hw (zn13 hL (by decide)) dX8_foresee_94 ?_
            refine lv_goto (tgt := 145) hx hb dX8_foresee_97 (by decide) ?_
            exact zret_i C hr hlocks hw dX8_foresee_145 (by subst_vars; exact zpair ((if_neg c12_5).trans ((if_neg c27_9).trans ((if_pos c48_10).trans ((if_neg c78_18).trans (if_pos c87_19))))))
        · skip
          refine lv_iload_n hx hb dX8_foresee_81 rfl (lv_at hl 0 rfl) ?_
          refine lv_goto (tgt := 145) hx hb dX8_foresee_82 (by decide) ?_
          exact zret_i C hr hlocks hw dX8_foresee_145 (by subst_vars; exact zpair ((if_neg c12_5).trans ((if_neg c27_9).trans ((if_pos c48_10).trans (if_pos c78_18)))))
      · skip
        have n28 := znle c48_10 (a := (hq + h.toNatClampNeg)) (b := 5000) (zadd rfl uh) rfl (by omega) (by omega)
        refine lv_aload_n hx hb dX8_foresee_51 rfl (lv_at hl 0 rfl) ?_
        refine lv_iconst (v := 3) hx hb dX8_foresee_52 (by decide) ?_
        refine zafter_i C hw (zrunV (rest := []) C hml hl.1 hw (zn12 hL) rfl rfl (c_X8_no l D cy ad m1 H.size hL 3) zv_X8_31 rfl rfl rfl ⟨Nat.le_of_ble_eq_true rfl, Nat.le_of_ble_eq_true rfl⟩ rfl (Nat.le_of_ble_eq_true rfl) dX8_foresee_53 ⟨Nat.zero_le _, Nat.zero_le _⟩) (fun r31 m30 H locs h29 hw => ?_)
        obtain ⟨er31, em30⟩ := h29
        exact zret_i C hr hlocks hw dX8_foresee_56 (by subst_vars; exact zpair ((if_neg c12_5).trans ((if_neg c27_9).trans (if_neg c48_10))))
    · skip
      rw [er8] at c27_9
      refine lv_aload_n hx hb dX8_foresee_30 rfl (lv_at hl 0 rfl) ?_
      refine lv_iconst (v := 2) hx hb dX8_foresee_31 (by decide) ?_
      refine zafter_i C hw (zrunV (rest := []) C hml hl.1 hw (zn12 hL) rfl rfl (c_X8_no l D cy ad m1 H.size hL 2) zv_X8_31 rfl rfl rfl ⟨Nat.le_of_ble_eq_true rfl, Nat.le_of_ble_eq_true rfl⟩ rfl (Nat.le_of_ble_eq_true rfl) dX8_foresee_32 ⟨Nat.zero_le _, Nat.zero_le _⟩) (fun r34 m33 H locs h32 hw => ?_)
      obtain ⟨er34, em33⟩ := h32
      exact zret_i C hr hlocks hw dX8_foresee_35 (by subst_vars; exact zpair ((if_neg c12_5).trans (if_pos c27_9)))
  · skip
    rw [er4] at c12_5
    refine lv_aload_n hx hb dX8_foresee_15 rfl (lv_at hl 0 rfl) ?_
    refine lv_iconst (v := 1) hx hb dX8_foresee_16 (by decide) ?_
    refine zafter_i C hw (zrunV (rest := []) C hml hl.1 hw (zn12 hL) rfl rfl (c_X8_no l D cy ad m1 H.size hL 1) zv_X8_31 rfl rfl rfl ⟨Nat.le_of_ble_eq_true rfl, Nat.le_of_ble_eq_true rfl⟩ rfl (Nat.le_of_ble_eq_true rfl) dX8_foresee_17 ⟨Nat.zero_le _, Nat.zero_le _⟩) (fun r37 m36 H locs h35 hw => ?_)
    obtain ⟨er37, em36⟩ := h35
    exact zret_i C hr hlocks hw dX8_foresee_20 (by subst_vars; exact zpair (if_pos c12_5))

set_option maxHeartbeats 4000000 in
set_option maxRecDepth 100000 in
theorem c_X8_advise (l : Launch) (D : va_G) (cy : Nat → ClassId) (ad : ZN → Nat) (m : ZM) (sz : Nat) {L : List ZN} (hL : zL L) {bc : Nat} {sc go : Nat → Nat} {hq ln : Nat} (G : gM m bc sc go hq ln) (lq : hq ≤ 5000) (h : Int32) : Met l yX8_advise (zws yX8_advise cX8_advise 5 (some .int)) ({ frames := 5, cells := 0, slots := 0, locals := 122 } : Room) (zPc D cy ad L m sz [.ref (ad (12, 0, 0)), .int h]) (zQi (fun r m1 => r = (q8_advise m bc sc go hq h).1 ∧ m1 = (q8_advise m bc sc go hq h).2) D cy ad L sz) 0 0 (zA ad L sz) := by
  refine zopen (Qc := fun sz => zQi (fun r m1 => r = (q8_advise m bc sc go hq h).1 ∧ m1 = (q8_advise m bc sc go hq h).2) D cy ad L sz) RX8 (plainFor_of_name (by decide)) rfl (Nat.le_of_ble_eq_true rfl) ?_
  intro p e s mi below meth c ls C hr hlocks hml hl H locs hw
  obtain ⟨hx, hb, hts, hown, hK, hNw⟩ := id C
  have hl : lv_has ls 5 [(0, .ref (ad (12, 0, 0))), (1, .int h)] := hl
  refine lv_aload_n hx hb dX8_advise_0 rfl (lv_at hl 0 rfl) ?_
  refine lv_iconst (v := 0) hx hb dX8_advise_1 (by decide) ?_
  refine zp_X8_23 C hw (zn12 hL) dX8_advise_2 (fun H locs m1 em1 hw => ?_)
  have GM1 : gM m1 bc sc go hq ln := by rw [em1]; exact gM_t G
  obtain ⟨⟨hbc1, lbc1, hbx1, hhd1, -, hhq1, lhq1, hld1⟩, hln1, lln1⟩ := id GM1
  refine lv_iload_n hx hb dX8_advise_5 rfl (lv_at hl 1 rfl) ?_
  refine lv_iconst (v := 1) hx hb dX8_advise_6 (by decide) ?_
  refine lv_bipush (v := 48) hx hb dX8_advise_7 (by decide) ?_
  refine zafter_i C hw (zrunS (rest := []) C hml hl.1 hw (c_X8_isIn l D cy ad m1 H.size h 1 48) zv_X8_27 rfl rfl rfl ⟨Nat.le_of_ble_eq_true rfl, Nat.le_of_ble_eq_true rfl⟩ rfl (Nat.le_of_ble_eq_true rfl) dX8_advise_9 ⟨Nat.zero_le _, Nat.zero_le _⟩) (fun r4 m3 H locs h2 hw => ?_)
  obtain ⟨er4, h2⟩ := h2
  rw [h2] at hw
  clear h2 m3
  refine lv_if_ne (tgt := 21) hx hb dX8_advise_12 (by decide) (fun c12_5 => ?_) (fun c12_5 => ?_)
  · skip
    rw [er4] at c12_5
    obtain ⟨uh, uhl, uhu⟩ := q_isIn_ok (x := h) (a := 1) (b := 48) (by decide) (by decide) (fun q => c12_5 q)
    refine lv_aload_n hx hb dX8_advise_21 rfl (lv_at hl 0 rfl) ?_
    refine zg_X8_10 C hw (zn12 hL) dX8_advise_22 ?_
    refine zg_X8_93 C hw (zn13 hL (by decide)) dX8_advise_25 ?_
    refine ztop hhq1 ?_
    refine lv_iload_n hx hb dX8_advise_28 rfl (lv_at hl 1 rfl) ?_
    refine lv_iadd hx hb dX8_advise_29 ?_
    refine lv_sipush (v := 5000) hx hb dX8_advise_30 (by decide) ?_
    refine lv_icmp_le (tgt := 42) hx hb dX8_advise_33 (by decide) (fun c33_6 => ?_) (fun c33_6 => ?_)
    · skip
      have n7 := zle c33_6 (a := (hq + h.toNatClampNeg)) (b := 5000) (zadd rfl uh) rfl (by omega) (by omega)
      refine lv_iconst (v := 0) hx hb dX8_advise_42 (by decide) ?_
      refine lv_istore_n (lv' := [(2, .int 0), (0, .ref (ad (12, 0, 0))), (1, .int h)]) hx hb dX8_advise_43 rfl hl (by decide) rfl (fun ls hl => ?_)
      refine lv_iconst (v := (-1)) hx hb dX8_advise_44 (by decide) ?_
      refine lv_topi (fun x8 ex8 => ?_)
      refine lv_istore_n (lv' := [(3, .int x8), (2, .int 0), (0, .ref (ad (12, 0, 0))), (1, .int h)]) hx hb dX8_advise_45 rfl hl (by decide) rfl (fun ls hl => ?_)
      refine lv_iconst (v := 0) hx hb dX8_advise_46 (by decide) ?_
      refine lv_istore (lv' := [(4, .int 0), (3, .int x8), (2, .int 0), (0, .ref (ad (12, 0, 0))), (1, .int h)]) hx hb dX8_advise_47 hl (by decide) rfl (fun ls hl => ?_)
      have loop49 : ∀ (z : Nat) (k : Nat) (x2 x3 : Int32) (m0 : ZM) (H : Heap) (locs : List Loc) (ls : Array Slot), 21 - k = z → (k ≤ 21) → (gS m0 0 bc sc go hq) → ((m0, x2, x3) = q8_advS m1 bc sc go hq h.toNatClampNeg k) → zH D cy ad L s.heap H locs m0 → lv_has ls 5 [(0, .ref (ad (12, 0, 0))), (1, .int h), (2, .int x2), (3, .int x3), (4, .int (nI k))] → W p l e ({ frames := 5, cells := 0, slots := 0, locals := 122 } : Room) s mi [.ref (ad (12, 0, 0)), .int h].toArray below meth c H locs 0 0 (MQ below (zQi (fun r m1 => r = (q8_advise m bc sc go hq h).1 ∧ m1 = (q8_advise m bc sc go hq h).2) D cy ad L s.heap.size) [.ref (ad (12, 0, 0)), .int h].toArray s 0 0 (zA ad L s.heap.size)) (F0 mi 49 ls []) := by
        intro z
        induction z using Nat.strongRecOn with
        | _ z ih49 =>
        intro k x2 x3 m0 H locs ls hz49 i49_1 i49_2 i49_3 hw hl
        have G0 := i49_2
        refine lv_iload hx hb dX8_advise_49 (lv_at hl 4 rfl) ?_
        refine lv_bipush (v := 21) hx hb dX8_advise_51 (by decide) ?_
        refine lv_icmp_ge (tgt := 116) hx hb dX8_advise_53 (by decide) (fun c53_9 => ?_) (fun c53_9 => ?_)
        · skip
          have n10 := zle c53_9 (a := 21) (b := k) rfl rfl (by omega) (by omega)
          refine lv_iload_n hx hb dX8_advise_116 rfl (lv_at hl 2 rfl) ?_
          exact zret_i C hr hlocks hw dX8_advise_117 (by obtain rfl : k = 21 := (by omega); have e9 := i49_3; subst_vars; exact zpair (((if_neg c12_5).trans (if_pos c33_6)).trans (q8_adv_e e9)))
        · skip
          have n11 := znle c53_9 (a := 21) (b := k) rfl rfl (by omega) (by omega)
          refine lv_aload_n hx hb dX8_advise_56 rfl (lv_at hl 0 rfl) ?_
          refine zg_X8_16 C hw (zn12 hL) dX8_advise_57 ?_
          refine lv_aload_n hx hb dX8_advise_60 rfl (lv_at hl 0 rfl) ?_
          refine zg_X8_10 C hw (zn12 hL) dX8_advise_61 ?_
          refine zafter_v C hw (zrunV (rest := []) C hml hl.1 hw (zn13 hL (by decide)) rfl rfl (c_X7_become l D cy ad m0 H.size hL (by decide) (by decide)) zv_X8_157 rfl rfl rfl ⟨Nat.le_of_ble_eq_true rfl, Nat.le_of_ble_eq_true rfl⟩ rfl (Nat.le_of_ble_eq_true rfl) dX8_advise_64 ⟨Nat.zero_le _, Nat.zero_le _⟩) (fun m13 H locs h12 hw => ?_)
          have em13 := h12
          have GA : gS m13 1 bc sc go hq := by rw [em13]; exact gS_become G0
          refine lv_aload_n hx hb dX8_advise_67 rfl (lv_at hl 0 rfl) ?_
          refine zg_X8_16 C hw (zn12 hL) dX8_advise_68 ?_
          refine lv_iload hx hb dX8_advise_71 (lv_at hl 4 rfl) ?_
          refine zp_X8_38 C hw (zn13 hL (by decide)) dX8_advise_73 (fun H locs m15 em15 hw => ?_)
          have GA2 : gS m15 1 bc sc go hq := by rw [em15]; exact gS_sl GA
          refine lv_aload_n hx hb dX8_advise_76 rfl (lv_at hl 0 rfl) ?_
          refine zg_X8_16 C hw (zn12 hL) dX8_advise_77 ?_
          refine lv_iload_n hx hb dX8_advise_80 rfl (lv_at hl 1 rfl) ?_
          refine W.eq (congrArg (fun z : Int32 => F0 mi 81 ls [.int z, .ref (ad (13, 1, 0))]) (show h = nI h.toNatClampNeg from uh)) ?_
          refine zafter_i C hw (zrunS (rest := []) C hml hl.1 hw (c_X8_run l D cy ad m15 H.size hL (by decide) GA2 h.toNatClampNeg (by omega) (by omega)) zv_X8_96 rfl rfl rfl ⟨Nat.le_of_ble_eq_true rfl, Nat.le_of_ble_eq_true rfl⟩ rfl (Nat.le_of_ble_eq_true rfl) dX8_advise_81 ⟨Nat.zero_le _, Nat.zero_le _⟩) (fun r18 m17 H locs h16 hw => ?_)
          obtain ⟨er18, em17⟩ := h16
          refine lv_pop hx hb dX8_advise_84 rfl ?_
          refine lv_aload_n hx hb dX8_advise_85 rfl (lv_at hl 0 rfl) ?_
          refine zg_X8_16 C hw (zn12 hL) dX8_advise_86 ?_
          refine zafter_i C hw (zrunV (rest := []) C hml hl.1 hw (zn13 hL (by decide)) rfl rfl (c_X7_tinInBuddles l D cy ad m17 H.size hL (by decide)) zv_X8_161 rfl rfl rfl ⟨Nat.le_of_ble_eq_true rfl, Nat.le_of_ble_eq_true rfl⟩ rfl (Nat.le_of_ble_eq_true rfl) dX8_advise_89 ⟨Nat.zero_le _, Nat.zero_le _⟩) (fun r21 m20 H locs h19 hw => ?_)
          obtain ⟨er21, h19⟩ := h19
          rw [h19] at hw
          clear h19 m20
          refine lv_iload_n hx hb dX8_advise_92 rfl (lv_at hl 3 rfl) ?_
          refine lv_icmp_gt (tgt := 99) hx hb dX8_advise_93 (by decide) (fun c93_22 => ?_) (fun c93_22 => ?_)
          · skip
            rw [er21] at c93_22
            refine lv_aload_n hx hb dX8_advise_99 rfl (lv_at hl 0 rfl) ?_
            refine zg_X8_16 C hw (zn12 hL) dX8_advise_100 ?_
            refine zafter_i C hw (zrunV (rest := []) C hml hl.1 hw (zn13 hL (by decide)) rfl rfl (c_X7_tinInBuddles l D cy ad m17 H.size hL (by decide)) zv_X8_161 rfl rfl rfl ⟨Nat.le_of_ble_eq_true rfl, Nat.le_of_ble_eq_true rfl⟩ rfl (Nat.le_of_ble_eq_true rfl) dX8_advise_103 ⟨Nat.zero_le _, Nat.zero_le _⟩) (fun r25 m24 H locs h23 hw => ?_)
            obtain ⟨er25, h23⟩ := h23
            rw [h23] at hw
            clear h23 m24
            refine lv_istore_n (lv' := [(3, .int r25), (0, .ref (ad (12, 0, 0))), (1, .int h), (2, .int x2), (4, .int (nI k))]) hx hb dX8_advise_106 rfl hl (by decide) rfl (fun ls hl => ?_)
            refine lv_iload hx hb dX8_advise_107 (lv_at hl 4 rfl) ?_
            refine lv_istore_n (lv' := [(2, .int (nI k)), (3, .int r25), (0, .ref (ad (12, 0, 0))), (1, .int h), (4, .int (nI k))]) hx hb dX8_advise_109 rfl hl (by decide) rfl (fun ls hl => ?_)
            refine lv_iinc (v := (nI (k + 1))) (lv' := [(4, .int (nI (k + 1))), (2, .int (nI k)), (3, .int r25), (0, .ref (ad (12, 0, 0))), (1, .int h)]) hx hb dX8_advise_110 hl (k := 4) rfl (nI_1 k) (by decide) rfl (fun ls hl => ?_)
            refine lv_goto (tgt := 49) hx hb dX8_advise_113 (by decide) ?_
            exact ih49 _ (by omega) (k + 1) (nI k) r25 m17 _ _ _ rfl (by omega) (by rw [em17, em15, em13]; exact gS_adv G0) (q8_adv_a i49_3 em13 em15 em17 (by rw [← er21]; exact c93_22) er25) hw (lv_sub hl [3, 4, 1, 2, 0] rfl)
          · skip
            rw [er21] at c93_22
            refine lv_goto (tgt := 110) hx hb dX8_advise_96 (by decide) ?_
            refine lv_iinc (v := (nI (k + 1))) (lv' := [(4, .int (nI (k + 1))), (0, .ref (ad (12, 0, 0))), (1, .int h), (2, .int x2), (3, .int x3)]) hx hb dX8_advise_110 hl (k := 4) rfl (nI_1 k) (by decide) rfl (fun ls hl => ?_)
            refine lv_goto (tgt := 49) hx hb dX8_advise_113 (by decide) ?_
            exact ih49 _ (by omega) (k + 1) x2 x3 m17 _ _ _ rfl (by omega) (by rw [em17, em15, em13]; exact gS_adv G0) (q8_adv_b i49_3 em13 em15 em17 (by first | exact c93_22 | (rw [← er21]; exact c93_22))) hw (lv_sub hl [1, 2, 3, 4, 0] rfl)
      exact loop49 _ 0 0 (-1) m1 _ _ _ rfl (by omega) GM1.1 rfl hw (lv_sub hl [3, 4, 2, 1, 0] rfl)
    · skip
      have n26 := znle c33_6 (a := (hq + h.toNatClampNeg)) (b := 5000) (zadd rfl uh) rfl (by omega) (by omega)
      refine lv_aload_n hx hb dX8_advise_36 rfl (lv_at hl 0 rfl) ?_
      refine lv_iconst (v := 2) hx hb dX8_advise_37 (by decide) ?_
      refine zafter_i C hw (zrunV (rest := []) C hml hl.1 hw (zn12 hL) rfl rfl (c_X8_no l D cy ad m1 H.size hL 2) zv_X8_31 rfl rfl rfl ⟨Nat.le_of_ble_eq_true rfl, Nat.le_of_ble_eq_true rfl⟩ rfl (Nat.le_of_ble_eq_true rfl) dX8_advise_38 ⟨Nat.zero_le _, Nat.zero_le _⟩) (fun r29 m28 H locs h27 hw => ?_)
      obtain ⟨er29, em28⟩ := h27
      exact zret_i C hr hlocks hw dX8_advise_41 (by subst_vars; exact zpair ((if_neg c12_5).trans (if_neg c33_6)))
  · skip
    rw [er4] at c12_5
    refine lv_aload_n hx hb dX8_advise_15 rfl (lv_at hl 0 rfl) ?_
    refine lv_iconst (v := 1) hx hb dX8_advise_16 (by decide) ?_
    refine zafter_i C hw (zrunV (rest := []) C hml hl.1 hw (zn12 hL) rfl rfl (c_X8_no l D cy ad m1 H.size hL 1) zv_X8_31 rfl rfl rfl ⟨Nat.le_of_ble_eq_true rfl, Nat.le_of_ble_eq_true rfl⟩ rfl (Nat.le_of_ble_eq_true rfl) dX8_advise_17 ⟨Nat.zero_le _, Nat.zero_le _⟩) (fun r32 m31 H locs h30 hw => ?_)
    obtain ⟨er32, em31⟩ := h30
    exact zret_i C hr hlocks hw dX8_advise_20 (by subst_vars; exact zpair (if_pos c12_5))

set_option maxHeartbeats 4000000 in
set_option maxRecDepth 100000 in
theorem c_X8_bestWater (l : Launch) (D : va_G) (cy : Nat → ClassId) (ad : ZN → Nat) (m : ZM) (sz : Nat) {L : List ZN} (hL : zL L) (b x : Int32) : Met l yX8_bestWater (zws yX8_bestWater cX8_bestWater 7 (some .int)) ({ frames := 1, cells := 0, slots := 0, locals := 23 } : Room) (zPc D cy ad L m sz [.ref (ad (12, 0, 0)), .int b, .int x]) (zQi (fun r m1 => r = (q8_bestWater m b x).1 ∧ m1 = (q8_bestWater m b x).2) D cy ad L sz) 0 0 (zA ad L sz) := by
  refine zopen (Qc := fun sz => zQi (fun r m1 => r = (q8_bestWater m b x).1 ∧ m1 = (q8_bestWater m b x).2) D cy ad L sz) RX8 (plainFor_of_name (by decide)) rfl (Nat.le_of_ble_eq_true rfl) ?_
  intro p e s mi below meth c ls C hr hlocks hml hl H locs hw
  obtain ⟨hx, hb, hts, hown, hK, hNw⟩ := id C
  have hl : lv_has ls 7 [(0, .ref (ad (12, 0, 0))), (1, .int b), (2, .int x)] := hl
  refine lv_aload_n hx hb dX8_bestWater_0 rfl (lv_at hl 0 rfl) ?_
  refine lv_iconst (v := 0) hx hb dX8_bestWater_1 (by decide) ?_
  refine zp_X8_23 C hw (zn12 hL) dX8_bestWater_2 (fun H locs m1 em1 hw => ?_)
  refine lv_iload_n hx hb dX8_bestWater_5 rfl (lv_at hl 1 rfl) ?_
  refine lv_iconst (v := 0) hx hb dX8_bestWater_6 (by decide) ?_
  refine lv_iconst (v := 2) hx hb dX8_bestWater_7 (by decide) ?_
  refine zafter_i C hw (zrunS (rest := []) C hml hl.1 hw (c_X8_isIn l D cy ad m1 H.size b 0 2) zv_X8_27 rfl rfl rfl ⟨Nat.le_of_ble_eq_true rfl, Nat.le_of_ble_eq_true rfl⟩ rfl (Nat.le_of_ble_eq_true rfl) dX8_bestWater_8 ⟨Nat.zero_le _, Nat.zero_le _⟩) (fun r4 m3 H locs h2 hw => ?_)
  obtain ⟨er4, h2⟩ := h2
  rw [h2] at hw
  clear h2 m3
  refine lv_if_ne (tgt := 20) hx hb dX8_bestWater_11 (by decide) (fun c11_5 => ?_) (fun c11_5 => ?_)
  · skip
    rw [er4] at c11_5
    obtain ⟨ub, ubl, ubu⟩ := q_isIn_ok (x := b) (a := 0) (b := 2) (by decide) (by decide) (fun q => c11_5 q)
    refine lv_iload_n hx hb dX8_bestWater_20 rfl (lv_at hl 2 rfl) ?_
    refine lv_if_ge (tgt := 30) hx hb dX8_bestWater_21 (by decide) (fun c21_6 => ?_) (fun c21_6 => ?_)
    · skip
      refine lv_iconst (v := (-1)) hx hb dX8_bestWater_30 (by decide) ?_
      refine lv_topi (fun x7 ex7 => ?_)
      refine lv_istore_n (lv' := [(3, .int x7), (0, .ref (ad (12, 0, 0))), (1, .int b), (2, .int x)]) hx hb dX8_bestWater_31 rfl hl (by decide) rfl (fun ls hl => ?_)
      refine lv_iconst (v := (-1)) hx hb dX8_bestWater_32 (by decide) ?_
      refine lv_topi (fun x8 ex8 => ?_)
      refine lv_istore (lv' := [(4, .int x8), (3, .int x7), (0, .ref (ad (12, 0, 0))), (1, .int b), (2, .int x)]) hx hb dX8_bestWater_33 hl (by decide) rfl (fun ls hl => ?_)
      refine lv_bipush (v := 10) hx hb dX8_bestWater_35 (by decide) ?_
      refine lv_istore (lv' := [(5, .int 10), (4, .int x8), (3, .int x7), (0, .ref (ad (12, 0, 0))), (1, .int b), (2, .int x)]) hx hb dX8_bestWater_37 hl (by decide) rfl (fun ls hl => ?_)
      have loop39 : ∀ (z : Nat) (k : Nat) (x3 x4 : Int32) (H : Heap) (locs : List Loc) (ls : Array Slot), 91 - k = z → (10 ≤ k) → (k ≤ 91) → ((x3, x4) = q8_bwS m1 b.toNatClampNeg x (k - 10)) → (k = 10 ∨ ¬ q_pair m1 (2, 21 + 20 * 0, 6) (2 * b.toNatClampNeg) ≤ 0) → zH D cy ad L s.heap H locs m1 → lv_has ls 7 [(0, .ref (ad (12, 0, 0))), (1, .int b), (2, .int x), (3, .int x3), (4, .int x4), (5, .int (nI k))] → W p l e ({ frames := 1, cells := 0, slots := 0, locals := 23 } : Room) s mi [.ref (ad (12, 0, 0)), .int b, .int x].toArray below meth c H locs 0 0 (MQ below (zQi (fun r m1 => r = (q8_bestWater m b x).1 ∧ m1 = (q8_bestWater m b x).2) D cy ad L s.heap.size) [.ref (ad (12, 0, 0)), .int b, .int x].toArray s 0 0 (zA ad L s.heap.size)) (F0 mi 39 ls []) := by
        intro z
        induction z using Nat.strongRecOn with
        | _ z ih39 =>
        intro k x3 x4 H locs ls hz39 i39_1 i39_2 i39_3 i39_4 hw hl
        refine lv_iload hx hb dX8_bestWater_39 (lv_at hl 5 rfl) ?_
        refine lv_bipush (v := 91) hx hb dX8_bestWater_41 (by decide) ?_
        refine lv_icmp_ge (tgt := 112) hx hb dX8_bestWater_43 (by decide) (fun c43_9 => ?_) (fun c43_9 => ?_)
        · skip
          have n10 := zle c43_9 (a := 91) (b := k) rfl rfl (by omega) (by omega)
          refine lv_iload_n hx hb dX8_bestWater_112 rfl (lv_at hl 3 rfl) ?_
          exact zret_i C hr hlocks hw dX8_bestWater_113 (by have e9 := (q8_bw_e2 i39_3 (i39_4.resolve_left (by omega)) (by omega)); subst_vars; exact zpair (((if_neg c11_5).trans (if_pos c21_6)).trans (Prod.ext e9.symm rfl)))
        · skip
          have n11 := znle c43_9 (a := 91) (b := k) rfl rfl (by omega) (by omega)
          refine lv_aload_n hx hb dX8_bestWater_46 rfl (lv_at hl 0 rfl) ?_
          refine zg_X8_10 C hw (zn12 hL) dX8_bestWater_47 ?_
          refine lv_iload_n hx hb dX8_bestWater_50 rfl (lv_at hl 1 rfl) ?_
          refine W.eq (congrArg (fun z : Int32 => F0 mi 51 ls [.int z, .ref (ad (13, 0, 0))]) (show b = nI b.toNatClampNeg from ub)) ?_
          refine zafter_i C hw (zrunV (rest := []) C hml hl.1 hw (zn13 hL (by decide)) rfl rfl (c_X7_inBuddle l D cy ad m1 H.size hL (by decide) b.toNatClampNeg (by omega)) zv_X8_139 rfl rfl rfl ⟨Nat.le_of_ble_eq_true rfl, Nat.le_of_ble_eq_true rfl⟩ rfl (Nat.le_of_ble_eq_true rfl) dX8_bestWater_51 ⟨Nat.zero_le _, Nat.zero_le _⟩) (fun r14 m13 H locs h12 hw => ?_)
          obtain ⟨er14, h12⟩ := h12
          rw [h12] at hw
          clear h12 m13
          refine lv_if_le (tgt := 112) hx hb dX8_bestWater_54 (by decide) (fun c54_15 => ?_) (fun c54_15 => ?_)
          · skip
            rw [er14] at c54_15
            refine lv_iload_n hx hb dX8_bestWater_112 rfl (lv_at hl 3 rfl) ?_
            exact zret_i C hr hlocks hw dX8_bestWater_113 (by have e9 := (q8_bw_e1 i39_3 i39_4 c54_15); subst_vars; exact zpair (((if_neg c11_5).trans (if_pos c21_6)).trans (Prod.ext e9.symm rfl)))
          · skip
            rw [er14] at c54_15
            refine lv_aload_n hx hb dX8_bestWater_57 rfl (lv_at hl 0 rfl) ?_
            refine lv_iload_n hx hb dX8_bestWater_58 rfl (lv_at hl 1 rfl) ?_
            refine lv_iload hx hb dX8_bestWater_59 (lv_at hl 5 rfl) ?_
            refine W.eq (congrArg (fun z : Int32 => F0 mi 61 ls [.int (nI k), .int z, .ref (ad (12, 0, 0))]) (show b = nI b.toNatClampNeg from ub)) ?_
            refine zafter_i C hw (zrunV (rest := []) C hml hl.1 hw (zn12 hL) rfl rfl (c_X8_headRock l D cy ad m1 H.size hL b.toNatClampNeg (by omega) (nI k)) zv_X8_145 rfl rfl rfl ⟨Nat.le_of_ble_eq_true rfl, Nat.le_of_ble_eq_true rfl⟩ rfl (Nat.le_of_ble_eq_true rfl) dX8_bestWater_61 ⟨Nat.zero_le _, Nat.zero_le _⟩) (fun r18 m17 H locs h16 hw => ?_)
            obtain ⟨er18, h16⟩ := h16
            rw [h16] at hw
            clear h16 m17
            refine lv_i2l hx hb dX8_bestWater_64 rfl ?_
            refine lv_aload_n hx hb dX8_bestWater_65 rfl (lv_at hl 0 rfl) ?_
            refine lv_iload_n hx hb dX8_bestWater_66 rfl (lv_at hl 1 rfl) ?_
            refine lv_iload hx hb dX8_bestWater_67 (lv_at hl 5 rfl) ?_
            refine W.eq (congrArg (fun z : Int32 => F0 mi 69 ls [.int (nI k), .int z, .ref (ad (12, 0, 0)), .long r18.toInt64]) (show b = nI b.toNatClampNeg from ub)) ?_
            refine zafter_i C hw (zrunV (rest := [.long r18.toInt64]) C hml hl.1 hw (zn12 hL) rfl rfl (c_X8_headTin l D cy ad m1 H.size hL b.toNatClampNeg (by omega) (nI k)) zv_X8_142 rfl rfl rfl ⟨Nat.le_of_ble_eq_true rfl, Nat.le_of_ble_eq_true rfl⟩ rfl (Nat.le_of_ble_eq_true rfl) dX8_bestWater_69 ⟨Nat.zero_le _, Nat.zero_le _⟩) (fun r21 m20 H locs h19 hw => ?_)
            obtain ⟨er21, h19⟩ := h19
            rw [h19] at hw
            clear h19 m20
            refine lv_i2l hx hb dX8_bestWater_72 rfl ?_
            refine zafter_i C hw (zrunS (rest := []) C hml hl.1 hw (c_X8_grade l D cy ad m1 H.size r18.toInt64 r21.toInt64) zv_X8_132 rfl rfl rfl ⟨Nat.le_of_ble_eq_true rfl, Nat.le_of_ble_eq_true rfl⟩ rfl (Nat.le_of_ble_eq_true rfl) dX8_bestWater_73 ⟨Nat.zero_le _, Nat.zero_le _⟩) (fun r24 m23 H locs h22 hw => ?_)
            obtain ⟨er24, h22⟩ := h22
            rw [h22] at hw
            clear h22 m23
            refine lv_istore (lv' := [(6, .int r24), (0, .ref (ad (12, 0, 0))), (1, .int b), (2, .int x), (3, .int x3), (4, .int x4), (5, .int (nI k))]) hx hb dX8_bestWater_76 hl (by decide) rfl (fun ls hl => ?_)
            refine lv_aload_n hx hb dX8_bestWater_78 rfl (lv_at hl 1 rfl) ?_
            refine lv_iload_n hx hb dX8_bestWater_79 rfl (lv_at hl 2 rfl) ?_
            refine lv_iload hx hb dX8_bestWater_80 (lv_at hl 6 rfl) ?_
            refine W.eq (congrArg (fun z : Int32 => F0 mi 82 ls [.int (nI k), .int z, .ref (ad (12, 0, 0))]) (show b = nI b.toNatClampNeg from ub)) ?_
            refine zafter_i C hw (zrunV (rest := []) C hml hl.1 hw (zn12 hL) rfl rfl (c_X8_headTin l D cy ad m1 H.size hL b.toNatClampNeg (by omega) (nI k)) zv_X8_142 rfl rfl rfl ⟨Nat.le_of_ble_eq_true rfl, Nat.le_of_ble_eq_true rfl⟩ rfl (Nat.le_of_ble_eq_true rfl) dX8_bestWater_82 ⟨Nat.zero_le _, Nat.zero_le _⟩) (fun r27 m26 H locs h25 hw => ?_)
            obtain ⟨er27, h25⟩ := h25
            rw [h25] at hw
            clear h25 m26
            refine lv_iload_n hx hb dX8_bestWater_85 rfl (lv_at hl 3 rfl) ?_
            refine lv_icmp_lt (tgt := 106) hx hb dX8_bestWater_86 (by decide) (fun c86_28 => ?_) (fun c86_28 => ?_)
            · skip
              rw [er27] at c86_28
              refine lv_iinc (v := (nI (k + 1))) (lv' := [(5, .int (nI (k + 1))), (6, .int r24), (0, .ref (ad (12, 0, 0))), (1, .int b), (2, .int x), (3, .int x3), (4, .int x4)]) hx hb dX8_bestWater_106 hl (k := 6) rfl (nI_1 k) (by decide) rfl (fun ls hl => ?_)
              refine lv_goto (tgt := 39) hx hb dX8_bestWater_109 (by decide) ?_
              exact ih39 _ (by omega) (k + 1) x3 x4 _ _ _ rfl (by omega) (by omega) (q8_bw_a i39_3 i39_1 c86_28) (Or.inr c54_15) hw (lv_sub hl [2, 3, 4, 5, 6, 0] rfl)
            · skip
              rw [er27] at c86_28
              refine lv_iload hx hb dX8_bestWater_89 (lv_at hl 0 rfl) ?_
              refine lv_iload hx hb dX8_bestWater_91 (lv_at hl 5 rfl) ?_
              refine lv_icmp_gt (tgt := 99) hx hb dX8_bestWater_93 (by decide) (fun c93_29 => ?_) (fun c93_29 => ?_)
              · skip
                rw [er24] at c93_29
                refine lv_iload hx hb dX8_bestWater_99 (lv_at hl 0 rfl) ?_
                refine lv_istore (lv' := [(4, .int r24), (6, .int r24), (0, .ref (ad (12, 0, 0))), (1, .int b), (2, .int x), (3, .int x3), (5, .int (nI k))]) hx hb dX8_bestWater_101 hl (by decide) rfl (fun ls hl => ?_)
                refine lv_iload hx hb dX8_bestWater_103 (lv_at hl 6 rfl) ?_
                refine lv_istore_n (lv' := [(3, .int (nI k)), (4, .int r24), (6, .int r24), (0, .ref (ad (12, 0, 0))), (1, .int b), (2, .int x), (5, .int (nI k))]) hx hb dX8_bestWater_105 rfl hl (by decide) rfl (fun ls hl => ?_)
                refine lv_iinc (v := (nI (k + 1))) (lv' := [(5, .int (nI (k + 1))), (3, .int (nI k)), (4, .int r24), (6, .int r24), (0, .ref (ad (12, 0, 0))), (1, .int b), (2, .int x)]) hx hb dX8_bestWater_106 hl (k := 6) rfl (nI_1 k) (by decide) rfl (fun ls hl => ?_)
                refine lv_goto (tgt := 39) hx hb dX8_bestWater_109 (by decide) ?_
                exact ih39 _ (by omega) (k + 1) (nI k) r24 _ _ _ rfl (by omega) (by omega) (q8_bw_b i39_3 i39_1 c86_28 (er24.trans (by rw [er18, er21]; rfl)) c93_29) (Or.inr c54_15) hw (lv_sub hl [4, 5, 6, 1, 2, 0] rfl)
              · skip
                rw [er24] at c93_29
                refine lv_goto (tgt := 106) hx hb dX8_bestWater_96 (by decide) ?_
                refine lv_iinc (v := (nI (k + 1))) (lv' := [(5, .int (nI (k + 1))), (6, .int r24), (0, .ref (ad (12, 0, 0))), (1, .int b), (2, .int x), (3, .int x3), (4, .int x4)]) hx hb dX8_bestWater_106 hl (k := 6) rfl (nI_1 k) (by decide) rfl (fun ls hl => ?_)
                refine lv_goto (tgt := 39) hx hb dX8_bestWater_109 (by decide) ?_
                exact ih39 _ (by omega) (k + 1) x3 x4 _ _ _ rfl (by omega) (by omega) (q8_bw_c i39_3 i39_1 c86_28 (er24.trans (by rw [er18, er21]; rfl)) c93_29) (Or.inr c54_15) hw (lv_sub hl [2, 3, 4, 5, 6, 0] rfl)
      exact loop39 _ 10 (-1) (-1) _ _ _ rfl (by omega) (by omega) rfl (Or.inl rfl) hw (lv_sub hl [3, 4, 5, 2, 1, 0] rfl)
    · skip
      refine lv_aload_n hx hb dX8_bestWater_24 rfl (lv_at hl 0 rfl) ?_
      refine lv_iconst (v := 2) hx hb dX8_bestWater_25 (by decide) ?_
      refine zafter_i C hw (zrunV (rest := []) C hml hl.1 hw (zn12 hL) rfl rfl (c_X8_no l D cy ad m1 H.size hL 2) zv_X8_31 rfl rfl rfl ⟨Nat.le_of_ble_eq_true rfl, Nat.le_of_ble_eq_true rfl⟩ rfl (Nat.le_of_ble_eq_true rfl) dX8_bestWater_26 ⟨Nat.zero_le _, Nat.zero_le _⟩) (fun r32 m31 H locs h30 hw => ?_)
      obtain ⟨er32, em31⟩ := h30
      exact zret_i C hr hlocks hw dX8_bestWater_29 (by subst_vars; exact zpair ((if_neg c11_5).trans (if_neg c21_6)))
  · skip
    rw [er4] at c11_5
    refine lv_aload_n hx hb dX8_bestWater_14 rfl (lv_at hl 0 rfl) ?_
    refine lv_iconst (v := 1) hx hb dX8_bestWater_15 (by decide) ?_
    refine zafter_i C hw (zrunV (rest := []) C hml hl.1 hw (zn12 hL) rfl rfl (c_X8_no l D cy ad m1 H.size hL 1) zv_X8_31 rfl rfl rfl ⟨Nat.le_of_ble_eq_true rfl, Nat.le_of_ble_eq_true rfl⟩ rfl (Nat.le_of_ble_eq_true rfl) dX8_bestWater_16 ⟨Nat.zero_le _, Nat.zero_le _⟩) (fun r35 m34 H locs h33 hw => ?_)
    obtain ⟨er35, em34⟩ := h33
    exact zret_i C hr hlocks hw dX8_bestWater_19 (by subst_vars; exact zpair (if_pos c11_5))
