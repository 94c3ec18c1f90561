/-! what holds between two calls, and what a call keeps -/
def tmk (k : ZN) : Prop := k.1 = 12 ∨ k.1 = 13 ∨ (k.1 = 2 ∧ 10 ≤ k.2.1)
def tcl (k : ZN) : Prop := k.1 ≠ 12 ∧ k.1 ≠ 13 ∧ (k.1 = 2 → k.2.1 < 10)
def tms (w : Nat) (k : ZN) : Prop := k = (13, w, 0) ∨ (k.1 = 2 ∧ 10 + 20 * w ≤ k.2.1 ∧ k.2.1 < 30 + 20 * w)
theorem tms_13 {w : Nat} : tms w (13, w, 0) := Or.inl rfl
theorem tms_2 {w a len : Nat} (h : 10 ≤ a) (h2 : a < 30) : tms w (2, a + 20 * w, len) := Or.inr ⟨rfl, by show 10 + 20 * w ≤ a + 20 * w; omega, by show a + 20 * w < 30 + 20 * w; omega⟩
theorem tms_tmk {k : ZN} (h : tms 0 k) : tmk k := by
  rcases h with h | ⟨h1, h2, -⟩
  · exact Or.inr (Or.inl (by rw [h]))
  · exact Or.inr (Or.inr ⟨h1, by omega⟩)
theorem zt_2 {w : Nat} : zt w (2, w, 24) := Or.inr rfl
theorem zt_tcl {w : Nat} (hw : w < 2) {k : ZN} (h : zt w k) : tcl k := by
  rcases h with ⟨h1, h2⟩ | h
  · refine ⟨?_, ?_, ?_⟩
    · rcases h2 with h2 | h2 | h2 | h2 | h2 | h2 <;> omega
    · rcases h2 with h2 | h2 | h2 | h2 | h2 | h2 <;> omega
    · intro q
      rcases h2 with h2 | h2 | h2 | h2 | h2 | h2 <;> omega
  · subst h
    exact ⟨by show (2 : Nat) ≠ 12; decide, by show (2 : Nat) ≠ 13; decide, fun _ => by show w < 10; omega⟩
theorem tmk_zt {w : Nat} (hw : w < 2) {k : ZN} (h : tmk k) : ¬ zt w k := fun q => by
  obtain ⟨h1, h2, h3⟩ := zt_tcl hw q
  rcases h with h | h | ⟨h, h'⟩
  · exact h1 h
  · exact h2 h
  · have := h3 h; omega
section TI
variable {ma mb ma' mb' : ZM}
theorem rS_same {w bc hq : Nat} {sc bu : Nat → Nat} (R : rS ma mb w bc sc bu hq) (ha : ∀ k, zt w k → ma' k = ma k) (hb : ∀ k, tms w k → mb' k = mb k) : rS ma' mb' w bc sc bu hq := by
  obtain ⟨r1, r2, r3, r4, r5, r6, r7, r8, r9, ⟨f, c, r10⟩, z, N, r11, r12, r13, r14⟩ := R
  have a1 : ma' (1, w, 0) = ma (1, w, 0) := ha _ zt_1
  have b13 : mb' (13, w, 0) = mb (13, w, 0) := hb _ tms_13
  have b2 : ∀ a len, 10 ≤ a → a < 30 → mb' (2, a + 20 * w, len) = mb (2, a + 20 * w, len) := fun a len h1 h2 => hb _ (tms_2 h1 h2)
  refine ⟨by rw [a1]; exact r1, by rw [b13]; exact r2, r3, by rw [a1]; exact r4, by rw [b13]; exact r5, by rw [a1, b13]; exact r6, by rw [a1, b13]; exact r7, ?_, fun u hu => ?_, ⟨f, c, ?_⟩, z, N, by rw [a1]; exact r11, by rw [b13]; exact r12, fun b hb => ?_, r14⟩
  · rw [ha _ zt_2, b2 10 24 (by decide) (by decide)]; exact r8
  · exact tU_same (r9 u hu) (ha _ zt_7) (by rw [b2 21 6 (by decide) (by decide)]) (by rw [b2 21 6 (by decide) (by decide)])
  · exact tL_same r10 (ha _ zt_8) (fun _ _ _ => ha _ zt_7) (fun _ => ha _ zt_10) (by rw [b13]) (b2 20 90 (by decide) (by decide))
  · exact tB_same (r13 b hb) (ha _ zt_4) (fun _ _ _ => ha _ zt_6) (fun _ _ _ => ha _ zt_7) (by rw [b2 11 4 (by decide) (by decide)]) (by rw [b2 16 4 (by decide) (by decide)]) (by rw [b2 15 4 (by decide) (by decide)]) (by rw [b2 17 4 (by decide) (by decide)]) (by rw [b2 18 4 (by decide) (by decide)]) (fun _ _ _ => by rw [b2 12 16 (by decide) (by decide)]) (fun _ _ _ => by rw [b2 13 16 (by decide) (by decide)]) (fun _ _ _ => by rw [b2 14 16 (by decide) (by decide)]) (fun _ _ _ => by rw [b2 19 24 (by decide) (by decide)])
/-- a box that isn't there yet -/
def tFr (ma mb : ZM) (b : Nat) : Prop := ma (4, 0, b) 4 = 0 ∧ ma (4, 0, b) 5 = 50 ∧ ma (4, 0, b) 6 = 0 ∧ ma (4, 0, b) 7 = 5 ∧ ma (4, 0, b) 8 = 0 ∧ (∀ o j, 3 * b ≤ o → o < 3 * b + 3 → j < 2 → ma (7, 0, o) j = 0) ∧ mb (2, 11 + 20 * 0, 4) b = 0 ∧ mb (2, 16 + 20 * 0, 4) b = 0 ∧ mb (2, 18 + 20 * 0, 4) b = 0 ∧ ∀ j, 6 * b ≤ j → j < 6 * b + 6 → mb (2, 19 + 20 * 0, 24) j = 0
theorem tFr_same {b : Nat} (h : tFr ma mb b) (a1 : ma' (4, 0, b) = ma (4, 0, b)) (a2 : ∀ o, 3 * b ≤ o → o < 3 * b + 3 → ma' (7, 0, o) = ma (7, 0, o)) (b1 : mb' (2, 11 + 20 * 0, 4) b = mb (2, 11 + 20 * 0, 4) b) (b2 : mb' (2, 16 + 20 * 0, 4) b = mb (2, 16 + 20 * 0, 4) b) (b3 : mb' (2, 18 + 20 * 0, 4) b = mb (2, 18 + 20 * 0, 4) b) (b4 : ∀ j, 6 * b ≤ j → j < 6 * b + 6 → mb' (2, 19 + 20 * 0, 24) j = mb (2, 19 + 20 * 0, 24) j) : tFr ma' mb' b := by
  obtain ⟨h1, h2, h3, h4, h5, h6, h7, h8, h9, h10⟩ := h
  exact ⟨by rw [a1]; exact h1, by rw [a1]; exact h2, by rw [a1]; exact h3, by rw [a1]; exact h4, by rw [a1]; exact h5, fun o j o1 o2 hj => by rw [a2 o o1 o2]; exact h6 o j o1 o2 hj, by rw [b1]; exact h7, by rw [b2]; exact h8, by rw [b3]; exact h9, fun j j1 j2 => by rw [b4 j j1 j2]; exact h10 j j1 j2⟩
/-- store, tails, metal -/
def tZ (ma mb : ZM) (n : Nat) : Prop := ∃ sr st tr tt mt, ma (7, 0, 45) 0 = nI sr ∧ ma (7, 0, 45) 1 = nI st ∧ mb (2, 60, 2) 0 = nI sr ∧ mb (2, 60, 2) 1 = nI st ∧ ma (7, 0, 46) 0 = nI tr ∧ ma (7, 0, 46) 1 = nI tt ∧ mb (12, 0, 0) 4 = nI tr ∧ mb (12, 0, 0) 5 = nI tt ∧ ma (1, 0, 0) 11 = nI mt ∧ mb (12, 0, 0) 6 = nI mt ∧ sr + st + tr + tt + mt ≤ 6000 * n
theorem tZ_same {n n' : Nat} (h : tZ ma mb n) (hn : n ≤ n') (a1 : ma' (7, 0, 45) = ma (7, 0, 45)) (a2 : ma' (7, 0, 46) = ma (7, 0, 46)) (a3 : ma' (1, 0, 0) 11 = ma (1, 0, 0) 11) (b1 : mb' (2, 60, 2) = mb (2, 60, 2)) (b2 : ∀ j, 4 ≤ j → j ≤ 6 → mb' (12, 0, 0) j = mb (12, 0, 0) j) : tZ ma' mb' n' := by
  unfold tZ
  rw [a1, a2, a3, b1, b2 4 (by decide) (by decide), b2 5 (by decide) (by decide), b2 6 (by decide) (by decide)]
  obtain ⟨sr, st, tr, tt, mt, h1, h2, h3, h4, h5, h6, h7, h8, h9, h10, h11⟩ := h
  exact ⟨sr, st, tr, tt, mt, h1, h2, h3, h4, h5, h6, h7, h8, h9, h10, by omega⟩
def RQ (ma mb : ZM) (n bc : Nat) (sc bu : Nat → Nat) (hq f c : Nat) : Prop :=
  hq ≤ 5000 ∧ rS ma mb 0 bc sc bu hq ∧ tL ma mb 0 f c ∧ (∀ b, bc ≤ b → b < 4 → sc b = 0 ∧ bu b = 0 ∧ tFr ma mb b) ∧ (∀ b k, b < 4 → sc b ≤ k → k < 4 → ma (6, 0, 4 * b + k) 2 = 0) ∧ tZ ma mb n ∧ gT ma
variable {n n' bc hq f c : Nat} {sc bu : Nat → Nat}
theorem gT_same (h : gT ma) (e : ∀ b, b < 4 → ma' (4, 1, b) = ma (4, 1, b)) : gT ma' := fun b hb => by
  rw [e b hb]
  exact h b hb
theorem RQ_fr (R : RQ ma mb n bc sc bu hq f c) (hn : n ≤ n') (ha : ∀ k, zt 0 k → ma' k = ma k) (hT : gT ma') (hb : ∀ k, tms 0 k → mb' k = mb k) (h60 : mb' (2, 60, 2) = mb (2, 60, 2)) (h12 : ∀ j, 4 ≤ j → j ≤ 6 → mb' (12, 0, 0) j = mb (12, 0, 0) j) : RQ ma' mb' n' bc sc bu hq f c := by
  obtain ⟨q1, q2, q3, q4, q5, q6, q7⟩ := R
  have b2 : ∀ a len, 10 ≤ a → a < 30 → mb' (2, a + 20 * 0, len) = mb (2, a + 20 * 0, len) := fun a len h1 h2 => hb _ (tms_2 h1 h2)
  refine ⟨q1, rS_same q2 ha hb, ?_, fun b b1 b2' => ?_, fun b k h1 h2 h3 => by rw [ha _ zt_6]; exact q5 b k h1 h2 h3, tZ_same q6 hn (ha _ zt_7) (ha _ zt_7) (by rw [ha _ zt_1]) h60 h12, hT⟩
  · exact tL_same q3 (ha _ zt_8) (fun _ _ _ => ha _ zt_7) (fun _ => ha _ zt_10) (by rw [hb _ tms_13]) (b2 20 90 (by decide) (by decide))
  · obtain ⟨h1, h2, h3⟩ := q4 b b1 b2'
    exact ⟨h1, h2, tFr_same h3 (ha _ zt_4) (fun _ _ _ => ha _ zt_7) (by rw [b2 11 4 (by decide) (by decide)]) (by rw [b2 16 4 (by decide) (by decide)]) (by rw [b2 18 4 (by decide) (by decide)]) (fun _ _ _ => by rw [b2 19 24 (by decide) (by decide)])⟩
theorem RQ_gW (R : RQ ma mb n bc sc bu hq f c) : gW ma 0 bc sc bu hq := by
  obtain ⟨q1, ⟨r1, r2, r3, r4, r5, r6, r7, r8, r9, -, z, N, r11, r12, r13, r14⟩, q3, q4, q5, q6, q7⟩ := R
  refine ⟨r1, r3, fun b hb => ?_, ⟨f, q3.1, q3.2.1⟩, r4, by omega⟩
  by_cases h : b < bc
  · have := r13 b h
    exact ⟨this.1, this.2.2.1, this.2.2.2.1, this.2.2.2.2.2.1⟩
  · obtain ⟨h1, h2, h3⟩ := q4 b (by omega) hb
    rw [h1, h2]
    exact ⟨h3.1.trans nI_0.symm, by decide, h3.2.2.1.trans nI_0.symm, by decide⟩
theorem RQ_gM (R : RQ ma mb n bc sc bu hq f c) : gM mb bc sc bu hq c := by
  obtain ⟨q1, ⟨r1, r2, r3, r4, r5, r6, r7, r8, r9, -, z, N, r11, r12, r13, r14⟩, q3, q4, q5, q6, q7⟩ := R
  obtain ⟨K, k1, k2, k3, k4⟩ := t_load (sc' := sc) r13 (fun _ _ => rfl) bc (Nat.le_refl _)
  refine ⟨⟨r2, r3, fun b hb => ?_, fun b hb => ?_, ⟨c, q3.2.2.2.1, q3.2.2.2.2.1, fun j hj => ?_⟩, r5, by omega, ?_⟩, q3.2.2.2.1, q3.2.2.2.2.1⟩
  · by_cases h : b < bc
    · have := r13 b h
      exact ⟨this.2.1, this.2.2.1, this.2.2.2.2.1, this.2.2.2.2.2.1⟩
    · obtain ⟨h1, h2, h3⟩ := q4 b (by omega) hb
      rw [h1, h2]
      exact ⟨h3.2.2.2.2.2.2.1.trans nI_0.symm, by decide, h3.2.2.2.2.2.2.2.1.trans nI_0.symm, by decide⟩
  · obtain ⟨h, h1, h2, h3, h4⟩ := (r13 b hb).2.2.2.2.2.2.2.1
    exact ⟨h, h4, h1, h2⟩
  · obtain ⟨r, t, h, -, -, -, -, -, x5, -, -, x8, x9⟩ := q3.2.2.2.2.2 j hj
    exact ⟨h, x5, x8, x9⟩
  · rw [k4]
    exact nI_ne0 (by omega) (by omega)
end TI
/-- what the reference's calls keep: all that is the class's -/
def fm (m m1 : ZM) : Prop := ∀ k, tcl k → m1 k = m k
section TM
variable {m m1 m2 : ZM} {n v : ZN}
theorem fm_rf : fm m m := fun _ _ => rfl
theorem fm_tr (h : fm m m1) (h2 : fm m1 m2) : fm m m2 := fun k hk => (h2 k hk).trans (h k hk)
theorem tcl_ne {k n : ZN} (hk : tcl k) (hn : ¬ tcl n) : k ≠ n := fun e => hn (by rw [← e]; exact hk)
theorem fm_s {j : Nat} {x : Int32} (h : fm m m1) (hn : ¬ tcl n) : fm m (zs m1 n j x) := fun k hk => (zs_ne (tcl_ne hk hn)).trans (h k hk)
theorem nc12 {a b : Nat} : ¬ tcl (12, a, b) := fun h => h.1 rfl
theorem nc13 {a b : Nat} : ¬ tcl (13, a, b) := fun h => h.2.1 rfl
theorem nc2 {a b : Nat} (ha : 10 ≤ a) : ¬ tcl (2, a, b) := fun h => absurd (h.2.2 rfl) (Nat.not_lt.mpr ha)
theorem fm_mv {i j : Nat} {x : Int32} (h : fm m m1) (hn : ¬ tcl n) (hv : ¬ tcl v) : fm m (q_mv m1 n i v j x) := fun k hk => (q_mv_ne (tcl_ne hk hn) (tcl_ne hk hv)).trans (h k hk)
theorem fm_addLot {w ln : Nat} {x y z : Int32} (h : fm m m1) : fm m (q_addLot7 m1 w ln x y z) := fm_s (fm_s (fm_s (fm_s h (nc2 (by omega))) (nc2 (by omega))) (nc2 (by omega))) nc13
theorem tcl_ne2 {k : ZN} (hk : tcl k) {a len : Nat} (ha : 10 ≤ a) : k ≠ (2, a, len) := fun e => nc2 ha (e ▸ hk)
theorem fm_pass {w bc hq : Nat} {sc go : Nat → Nat} (h : fm m m1) : fm m (q_pass7 m1 w bc sc go hq) := fun k hk => by
  have e : ∀ (n : Nat) (x t : Int32) (m : ZM), q_boxes7 m w sc go x t n k = m k := by
    intro n x t m
    induction n with
    | zero => rfl
    | succ n ih => rw [q_boxes7, q_box7_ne (tcl_ne2 hk (by omega)) (tcl_ne2 hk (by omega)) (tcl_ne2 hk (by omega)) (tcl_ne2 hk (by omega)) hk.2.1, q_eat_ne (tcl_ne2 hk (by omega)) (tcl_ne2 hk (by omega)) (tcl_ne2 hk (by omega)) hk.2.1, ih]
  unfold q_pass7
  rw [zs_k hk.2.1, e, q_take7, zs_k hk.2.1, q_pond7, zs_k hk.2.1]
  exact h k hk
theorem fm_run {w bc hq n : Nat} {sc go : Nat → Nat} (h : fm m m1) : fm m (q_runM7 m1 w bc sc go hq n) := by
  induction n with
  | zero => exact h
  | succ n ih => exact fm_pass ih
theorem fm_become (h : fm m m1) : fm m (q_become7 m1 1 0) := fun k hk => (q_become7_o ⟨fun e => nc13 (e ▸ hk), fun a len ha => tcl_ne2 hk (by omega)⟩).trans (h k hk)
end TM
/-- a call's end: code, answer, and what holds between two calls -/
def tDone (n bc : Nat) (sc bu : Nat → Nat) (hq c : Nat) (q : Int32 × ZM) (g : ZM → Int32 × ZM) : Prop :=
  gM q.2 bc sc bu hq c ∧ (g q.2).2 (12, 0, 0) 0 = q.1 ∧ (q.1 = 0 → (g q.2).2 (14, 0, 0) 0 = (g q.2).1) ∧ ∃ bc' sc' bu' hq' f' c', RQ (g q.2).2 (g q.2).2 (n + 1) bc' sc' bu' hq' f' c'
section TD
variable {m : ZM} {n bc hq f c : Nat} {sc bu : Nat → Nat}
theorem tx_fail {g : ZM → Int32 × ZM} (R : RQ m m n bc sc bu hq f c) {q : Z3} {a b d k : Nat} (hk : k ≠ 0) (hq0 : q = (k, 0, m)) {j : Int32} (hg : g m = q8_t m j) (hj : j = zcd a b d k) (hj0 : ¬ j = 0) : tDone n bc sc bu hq c (zlr a b d q) g := by
  have e1 : (zlr a b d q).2 = m := by rw [hq0]; exact if_neg hk
  have e2 : (zlr a b d q).1 = j := by rw [hq0]; exact hj.symm
  have e3 : (g m).2 = zs (zs m (12, 0, 0) 0 0) (12, 0, 0) 0 j := by rw [hg]; rfl
  unfold tDone
  rw [e1, e2, e3]
  refine ⟨RQ_gM R, by rw [zs_eq rfl], fun h => absurd h hj0, bc, sc, bu, hq, f, c, ?_⟩
  exact RQ_fr R (by omega) (fun k hk => by rw [zs_ne (tcl_ne (zt_tcl (by decide) hk) nc12), zs_ne (tcl_ne (zt_tcl (by decide) hk) nc12)]) (gT_same R.2.2.2.2.2.2 (fun b _ => by rw [zs_k (zk rfl), zs_k (zk rfl)])) (fun k hk => by
    have : k ≠ (12, 0, 0) := fun e => by
      rcases hk with h | ⟨h, -⟩
      · rw [e] at h; injection h with h1; exact absurd h1 (by decide)
      · rw [e] at h; exact absurd h (by decide)
    rw [zs_ne this, zs_ne this]) (by rw [zs_k (zk rfl), zs_k (zk rfl)]) (fun j h1 h2 => by rw [zs_ej (by omega), zs_ej (by omega)])
/-- a call that answers -/
theorem tx_ok {g : ZM → Int32 × ZM} (R : RQ m m n bc sc bu hq f c) {q : Z3} {a b d : Nat} (hz : zcd a b d 0 = 0) {r : Int32} {mc mo : ZM} (hq0 : q = (0, r, mc)) (hfr : ∀ k, tmk k → mc k = m k) (hg : RQ m (zs mc (14, 0, 0) 0 r) n bc sc bu hq f c → g (zs mc (14, 0, 0) 0 r) = (r, mo)) (h12 : mo (12, 0, 0) 0 = 0) (hfm : fm (zs mc (14, 0, 0) 0 r) mo)
    (hR : RQ m (zs mc (14, 0, 0) 0 r) n bc sc bu hq f c → ∃ bc' sc' bu' hq' f' c', RQ mc mo (n + 1) bc' sc' bu' hq' f' c') : tDone n bc sc bu hq c (zlr a b d q) g := by
  have e1 : (zlr a b d q).2 = zs mc (14, 0, 0) 0 r := by rw [hq0]; exact if_pos (c := ((0 : Nat) = 0)) (t := zs mc (14, 0, 0) 0 r) (e := mc) rfl
  have e2 : (zlr a b d q).1 = 0 := by rw [hq0]; exact hz
  have R1 : RQ m (zs mc (14, 0, 0) 0 r) n bc sc bu hq f c := RQ_fr R (Nat.le_refl _) (fun _ _ => rfl) R.2.2.2.2.2.2 (fun k hk => by
    have : k ≠ (14, 0, 0) := fun e => by
      rcases hk with h | ⟨h, -⟩
      · rw [e] at h; injection h with h1; exact absurd h1 (by decide)
      · rw [e] at h; exact absurd h (by decide)
    rw [zs_ne this, hfr k (tms_tmk hk)]) (by rw [zs_k (zk rfl)]; exact hfr _ (Or.inr (Or.inr ⟨rfl, by show 10 ≤ 60; decide⟩))) (fun j _ _ => by rw [zs_k (zk rfl), hfr _ (Or.inl rfl)])
  obtain ⟨bc', sc', bu', hq', f', c', R2⟩ := hR R1
  unfold tDone
  rw [e1, e2, hg R1]
  have h14 : tcl (14, 0, 0) := ⟨by show (14 : Nat) ≠ 12; decide, by show (14 : Nat) ≠ 13; decide, fun h => absurd h (by show ¬ (14 : Nat) = 2; decide)⟩
  refine ⟨RQ_gM R1, h12, fun _ => ?_, bc', sc', bu', hq', f', c', ?_⟩
  · show mo (14, 0, 0) 0 = r
    rw [hfm _ h14, zs_eq rfl]
  · have ek : ∀ k, tcl k → k ≠ (14, 0, 0) → mo k = mc k := fun k hk hk2 => by rw [hfm _ hk, zs_ne hk2]
    refine RQ_fr R2 (Nat.le_refl _) (fun k hk => ek k (zt_tcl (by decide) hk) (fun e => ?_)) (gT_same R2.2.2.2.2.2.2 (fun b _ => ek _ ⟨by show (4 : Nat) ≠ 12; decide, by show (4 : Nat) ≠ 13; decide, fun h => absurd h (by show ¬ (4 : Nat) = 2; decide)⟩ (fun e => by injection e with e1; exact absurd e1 (by decide)))) (fun _ _ => rfl) rfl (fun _ _ _ => rfl)
    rw [e] at hk
    rcases hk with ⟨-, h2⟩ | h2
    · rcases h2 with h2 | h2 | h2 | h2 | h2 | h2 <;> exact absurd h2 (by decide)
    · injection h2 with h3; exact absurd h3 (by decide)
end TD
