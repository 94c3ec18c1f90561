/-! the works -/
/-- what the walks over the works w need to hold: the counts, the boxes' stamps and buddles, the hopper's first place, the hour -/
def gW (m : ZM) (w bc : Nat) (sc bu : Nat → Nat) (hq : Nat) : Prop :=
  m (1, w, 0) 9 = nI bc ∧ bc ≤ 4 ∧ (∀ b, b < 4 → m (4, w, b) 4 = nI (sc b) ∧ sc b ≤ 4 ∧ m (4, w, b) 6 = nI (bu b) ∧ bu b < 3) ∧ (∃ f, m (8, w, 0) 1 = nI f ∧ f < 30) ∧ m (1, w, 0) 6 = nI hq ∧ hq < 2 ^ 30
def q_loadW (m : ZM) (w : Nat) (sc : Nat → Nat) : Nat → Int32
  | 0 => 20
  | k + 1 => q_loadW m w sc k + q_loads m w k (sc k)
def q_tinBoxes (m : ZM) (w bc : Nat) : Int32 := bx_sum (fun b => q_tinSizes m w b) bc
def q_tinBuds (m : ZM) (w : Nat) (n : Nat) : Int32 := bx_sum (fun b => m (7, w, 42 + b) 1) n
def q_tellWorks (m : ZM) (w bc : Nat) (sc : Nat → Nat) (f hn : Nat) (k : Int32) : Int32 :=
  if k = 0 then m (1, w, 0) 6 else if k = 1 then m (1, w, 0) 7 else if k = 2 then m (1, w, 0) 8 else if k = 3 then m (1, w, 0) 9
  else if k = 4 then m (8, w, 0) 2 else if k = 5 then q_oreLots m w f hn else if k = 6 then q_loadW m w sc bc else if k = 7 then m (7, w, 45) 0
  else if k = 8 then m (7, w, 45) 1 else if k = 9 then m (1, w, 0) 10 else if k = 10 then m (7, w, 46) 1 else if k = 11 then m (7, w, 46) 0
  else if k = 12 then m (1, w, 0) 11 else q_tinBoxes m w bc
def q_held (m : ZM) (w hq : Nat) : Int32 := q_min 20000 (m (1, w, 0) 7 + m (2, w, 24) (hq % 24))
def q_taken (m : ZM) (w hq : Nat) : Int32 := q_min (q_held m w hq) (m (1, w, 0) 8 * 40)
def q_takeM (m : ZM) (w hq : Nat) : ZM := zs m (1, w, 0) 7 (q_held m w hq - q_taken m w hq)
def q_work (m : ZM) (w b cn ub : Nat) (x t : Int32) : ZM :=
  let F := q_feed w (7, w, 3 * b) 30 m (m (4, w, b) 5) (m (4, w, b) 7)
  let m1 := zs F.1 (4, w, b) 7 F.2
  let m2 := q_blow m1 w b cn t
  let m3 := zs (q_slimeM m2 w b) (1, w, 0) 10 (m2 (1, w, 0) 10 + q_slimeR m2 w b)
  let m4 := q_grate m3 w b (7, w, 42 + ub % 3) x
  q_wearS m4 w b t cn
theorem q_feed_k {w n : Nat} {v k : ZN} : ∀ {m : ZM} {a h : Int32}, v.1 = 7 → k.1 ≠ 7 → k.1 ≠ 8 → (q_feed w v n m a h).1 k = m k := by
  induction n with
  | zero => intro m a h _ _ _; rfl
  | succ n ih =>
    intro m a h hv h7 h8
    unfold q_feed
    split
    · rfl
    split
    · rfl
    rw [ih hv h7 h8]
    split
    · rw [q_move_k h7 (by rw [hv]; exact h7)]
    · unfold q_dropFirst
      rw [zs_k h8, zs_k h8, q_move_k h7 (by rw [hv]; exact h7)]
theorem q_blow_k {m : ZM} {w b cn : Nat} {t : Int32} {k : ZN} (h7 : k.1 ≠ 7) (h4 : k.1 ≠ 4) : q_blow m w b cn t k = m k := by
  unfold q_blow
  rw [q_move_k h7 h7, q_move_k h7 h7, zs_k h4]
theorem q_blow_4 {m : ZM} {w b cn d j : Nat} {t : Int32} (h : j ≠ 8) : q_blow m w b cn t (4, w, d) j = m (4, w, d) j := by
  unfold q_blow
  rw [q_move_k (zk rfl) (zk rfl), q_move_k (zk rfl) (zk rfl)]
  by_cases e : ((4, w, d) : ZN) = (4, w, b)
  · rw [e, zs_ej h]
  · rw [zs_ne e]
def q_boxes (m : ZM) (w : Nat) (sc bu : Nat → Nat) (x t : Int32) : Nat → ZM
  | 0 => m
  | k + 1 => q_work (q_boxes m w sc bu x t k) w k (sc k) (bu k) x t
def q_hourT (m : ZM) (w : Nat) (sc : Nat → Nat) (bc hq : Nat) : Int32 := q_taken m w hq * 10 / q_max 1 (q_loadW (q_takeM m w hq) w sc bc)
def q_hourM (m : ZM) (w bc : Nat) (sc bu : Nat → Nat) (hq : Nat) : ZM :=
  let m1 := q_boxes (q_takeM m w hq) w sc bu (q_taken m w hq) (q_hourT m w sc bc hq) bc
  zs m1 (1, w, 0) 6 (m1 (1, w, 0) 6 + 1)
def q_passM (m : ZM) (w bc : Nat) (sc bu : Nat → Nat) (hq : Nat) : Nat → ZM
  | 0 => m
  | k + 1 => q_hourM (q_passM m w bc sc bu hq k) w bc sc bu (hq + k)
def q_passT (m : ZM) (w bc : Nat) (sc bu : Nat → Nat) (hq : Nat) : Nat → Int32
  | 0 => 0
  | k + 1 => q_passT m w bc sc bu hq k + q_hourT (q_passM m w bc sc bu hq k) w sc bc (hq + k)
theorem gW_take {m : ZM} {w bc hq : Nat} {sc bu : Nat → Nat} (G : gW m w bc sc bu hq) : gW (q_takeM m w hq) w bc sc bu hq := by
  obtain ⟨h1, h2, h3, ⟨f, h4, h5⟩, h6, h7⟩ := G
  unfold q_takeM
  refine ⟨by rw [zs_ej (by decide)]; exact h1, h2, fun b hb => by rw [zs_k (zk rfl)]; exact h3 b hb, ⟨f, by rw [zs_k (zk rfl)]; exact h4, h5⟩, by rw [zs_ej (by decide)]; exact h6, h7⟩
/-- the hopper's first place, behind a feed -/
theorem q_feed_f {w n : Nat} {v : ZN} : ∀ {m : ZM} {a h : Int32} {f : Nat}, v.1 = 7 → m (8, w, 0) 1 = nI f → f < 30 → ∃ g, (q_feed w v n m a h).1 (8, w, 0) 1 = nI g ∧ g < 30 := by
  induction n with
  | zero => intro m a h f _ hf lf; exact ⟨f, hf, lf⟩
  | succ n ih =>
    intro m a h f hv hf lf
    unfold q_feed
    split
    · exact ⟨f, hf, lf⟩
    split
    · exact ⟨f, hf, lf⟩
    have hm : ∀ (u : ZN) (z : Int32), u.1 = 7 → q_move m u v z (8, w, 0) 1 = nI f := fun u z hu => by rw [q_move_k (by rw [hu]; exact zk rfl) (by rw [hv]; exact zk rfl)]; exact hf
    split
    · exact ih hv (hm _ _ rfl) lf
    · refine ih (f := (f + 1) % 30) hv ?_ (Nat.mod_lt _ (by decide))
      rw [q_dropFirst_1, hm _ _ rfl, nI_1]
      exact q_fmodN (a := f + 1) (d := 30) (by omega) (by decide) (by decide)
theorem q_work_1 {m : ZM} {w b cn ub j : Nat} {x t : Int32} (h : j ≠ 10) : q_work m w b cn ub x t (1, w, 0) j = m (1, w, 0) j := by
  unfold q_work q_grate q_slimeM
  rw [q_wearS_k (zk rfl), q_move_k (zk rfl) (zk rfl), zs_ej h, zs_k (zk rfl), q_blow_k (zk rfl) (zk rfl), zs_k (zk rfl), q_feed_k rfl (zk rfl) (zk rfl)]
theorem q_work_4 {m : ZM} {w b cn ub d j : Nat} {x t : Int32} (h : j ≠ 8) (h7 : j ≠ 7) : q_work m w b cn ub x t (4, w, d) j = m (4, w, d) j := by
  unfold q_work q_grate q_slimeM
  rw [q_wearS_k (zk rfl), q_move_k (zk rfl) (zk rfl), zs_k (zk rfl), zs_k (zk rfl), q_blow_4 h]
  by_cases e : ((4, w, d) : ZN) = (4, w, b)
  · rw [e, zs_ej h7, q_feed_k rfl (zk rfl) (zk rfl)]
  · rw [zs_ne e, q_feed_k rfl (zk rfl) (zk rfl)]
theorem q_work_f {m : ZM} {w b cn ub f : Nat} {x t : Int32} (hf : m (8, w, 0) 1 = nI f) (lf : f < 30) : ∃ g, q_work m w b cn ub x t (8, w, 0) 1 = nI g ∧ g < 30 := by
  unfold q_work q_grate q_slimeM
  rw [q_wearS_k (zk rfl), q_move_k (zk rfl) (zk rfl), zs_k (zk rfl), zs_k (zk rfl), q_blow_k (zk rfl) (zk rfl), zs_k (zk rfl)]
  exact q_feed_f rfl hf lf
theorem gW_work {m : ZM} {w b cn ub bc hq : Nat} {sc bu : Nat → Nat} {x t : Int32} (G : gW m w bc sc bu hq) : gW (q_work m w b cn ub x t) w bc sc bu hq := by
  obtain ⟨h1, h2, h3, ⟨f, h4, h5⟩, h6, h7⟩ := G
  refine ⟨by rw [q_work_1 (by decide)]; exact h1, h2, fun d hd => ?_, q_work_f h4 h5, by rw [q_work_1 (by decide)]; exact h6, h7⟩
  rw [q_work_4 (by decide) (by decide), q_work_4 (by decide) (by decide)]
  exact h3 d hd
theorem gW_boxes {m : ZM} {w bc hq k : Nat} {sc bu : Nat → Nat} {x t : Int32} (G : gW m w bc sc bu hq) (hk : k ≤ 4) : gW (q_boxes m w sc bu x t k) w bc sc bu hq := by
  induction k with
  | zero => exact G
  | succ k ih => exact gW_work (ih (by omega))
theorem gW_hour {m : ZM} {w bc hq : Nat} {sc bu : Nat → Nat} (G : gW m w bc sc bu hq) (hh : hq + 1 < 2 ^ 30) : gW (q_hourM m w bc sc bu hq) w bc sc bu (hq + 1) := by
  obtain ⟨h1, h2, h3, ⟨f, h4, h5⟩, h6, h7⟩ := gW_boxes (x := q_taken m w hq) (t := q_hourT m w sc bc hq) (k := bc) (gW_take G) G.2.1
  unfold q_hourM
  refine ⟨by rw [zs_ej (by decide)]; exact h1, h2, fun b hb => by rw [zs_k (zk rfl)]; exact h3 b hb, ⟨f, by rw [zs_k (zk rfl)]; exact h4, h5⟩, ?_, hh⟩
  rw [zs_eq rfl, h6, nI_1]
theorem gW_pass {m : ZM} {w bc hq k : Nat} {sc bu : Nat → Nat} (G : gW m w bc sc bu hq) (hk : hq + k < 2 ^ 30) : gW (q_passM m w bc sc bu hq k) w bc sc bu (hq + k) := by
  induction k with
  | zero => exact G
  | succ k ih => exact gW_hour (ih (by omega)) (by omega)
def q_part (m : ZM) (w o f hn : Nat) (x : Int32) : ZM :=
  let hR := q_rockOfHead (m (7, w, o) 0) x
  let hT := q_tinOfHead (m (7, w, o) 1) x
  let lR := m (7, w, o) 0 - hR
  let lT := m (7, w, o) 1 - hT
  let m1 := q_put m (7, w, 45) hR hT
  let m2 := if lR / 2 + lT / 2 ≤ 0 then m1 else q_addLot m1 w ((f + hn) % 30) (lR / 2) (lT / 2) 1
  let m3 := q_put m2 (7, w, 46) (lR - lR / 2) (lT - lT / 2)
  q_become m3 (7, w, o) 0 0
theorem q_part_a {m : ZM} {w o f hn : Nat} {x : Int32} (h : (m (7, w, o) 0 - q_rockOfHead (m (7, w, o) 0) x) / 2 + (m (7, w, o) 1 - q_tinOfHead (m (7, w, o) 1) x) / 2 ≤ 0) :
    q_become (q_put (q_put m (7, w, 45) (q_rockOfHead (m (7, w, o) 0) x) (q_tinOfHead (m (7, w, o) 1) x)) (7, w, 46) (m (7, w, o) 0 - q_rockOfHead (m (7, w, o) 0) x - (m (7, w, o) 0 - q_rockOfHead (m (7, w, o) 0) x) / 2) (m (7, w, o) 1 - q_tinOfHead (m (7, w, o) 1) x - (m (7, w, o) 1 - q_tinOfHead (m (7, w, o) 1) x) / 2)) (7, w, o) 0 0 = q_part m w o f hn x := by
  unfold q_part
  simp only [if_pos h]
theorem q_part_b {m : ZM} {w o f hn : Nat} {x : Int32} (h : ¬ (m (7, w, o) 0 - q_rockOfHead (m (7, w, o) 0) x) / 2 + (m (7, w, o) 1 - q_tinOfHead (m (7, w, o) 1) x) / 2 ≤ 0) :
    q_become (q_put (q_addLot (q_put m (7, w, 45) (q_rockOfHead (m (7, w, o) 0) x) (q_tinOfHead (m (7, w, o) 1) x)) w ((f + hn) % 30) ((m (7, w, o) 0 - q_rockOfHead (m (7, w, o) 0) x) / 2) ((m (7, w, o) 1 - q_tinOfHead (m (7, w, o) 1) x) / 2) 1) (7, w, 46) (m (7, w, o) 0 - q_rockOfHead (m (7, w, o) 0) x - (m (7, w, o) 0 - q_rockOfHead (m (7, w, o) 0) x) / 2) (m (7, w, o) 1 - q_tinOfHead (m (7, w, o) 1) x - (m (7, w, o) 1 - q_tinOfHead (m (7, w, o) 1) x) / 2)) (7, w, o) 0 0 = q_part m w o f hn x := by
  unfold q_part
  simp only [if_neg h]
def q_smeltT (m : ZM) (w : Nat) (x : Int32) : Int32 := q_partOf (m (7, w, 45) 1) x (q_whole m (7, w, 45))
def q_smeltR (m : ZM) (w : Nat) (x : Int32) : Int32 := if 400 ≤ q_gradeOf (x - q_smeltT m w x) (q_smeltT m w x) then q_smeltT m w x * 9 / 10 else 0
def q_smeltP (m : ZM) (w : Nat) (x : Int32) : ZM := q_put m (7, w, 45) (-(x - q_smeltT m w x)) (-q_smeltT m w x)
def q_smeltM (m : ZM) (w : Nat) (x : Int32) : ZM := if 400 ≤ q_gradeOf (x - q_smeltT m w x) (q_smeltT m w x) then zs (q_smeltP m w x) (1, w, 0) 11 (q_smeltP m w x (1, w, 0) 11 + q_smeltT m w x * 9 / 10) else q_smeltP m w x
def q_cpw1 (m : ZM) (w v : Nat) : ZM :=
  let m1 := zcp m (2, v, 24) (2, w, 24) 24
  zs m1 (1, w, 0) 9 (m1 (1, v, 0) 9)
def q_cpBoxes (w v : Nat) (sc : Nat → Nat) (m : ZM) : Nat → ZM
  | 0 => m
  | k + 1 => q_copyBox (q_cpBoxes w v sc m k) w k v k (sc k)
def q_cpBuds (w v : Nat) (m : ZM) : Nat → ZM
  | 0 => m
  | k + 1 => q_copyOre (q_cpBuds w v m k) (7, w, 42 + k) (7, v, 42 + k)
def q_copyWorks (m : ZM) (w v bc : Nat) (sc : Nat → Nat) (f hn : Nat) : ZM :=
  let m1 := q_cpBoxes w v sc (q_cpw1 m w v) bc
  let m2 := q_copyHopper m1 w v f hn
  let m3 := q_cpBuds w v m2 3
  let m4 := zs m3 (1, w, 0) 6 (m3 (1, v, 0) 6)
  let m5 := zs m4 (1, w, 0) 7 (m4 (1, v, 0) 7)
  let m6 := zs m5 (1, w, 0) 8 (m5 (1, v, 0) 8)
  zs m6 (1, w, 0) 10 (m6 (1, v, 0) 10)
theorem zcp_k {m : ZM} {n v k : ZN} {len : Nat} (h : k.1 ≠ v.1) : zcp m n v len k = m k := by
  unfold zcp zu
  rw [if_neg (fun e => h (by rw [e]))]
theorem q_copyOre_k {m : ZM} {n v k : ZN} (h : k.1 ≠ n.1) : q_copyOre m n v k = m k := q_become_k h
theorem q_copyBox_k {m : ZM} {w b v d cn : Nat} {k : ZN} (h4 : k.1 ≠ 4) (h6 : k.1 ≠ 6) (h7 : k.1 ≠ 7) : q_copyBox m w b v d cn k = m k := by
  unfold q_copyBox
  rw [zs_k h4, zs_k h4, zs_k h4, zs_k h4, q_copyOre_k h7, q_copyOre_k h7, q_copyOre_k h7, q_cpStamps_k h6, zs_k h4]
theorem z4_ne {w v b d : Nat} (h : w ≠ v) : ((4, v, d) : ZN) ≠ (4, w, b) := fun e => h (by injection e with _ e2; injection e2 with e3; exact e3.symm)
theorem q_copyBox_o {m : ZM} {w b v d cn e j : Nat} (h : w ≠ v) : q_copyBox m w b v d cn (4, v, e) j = m (4, v, e) j := by
  unfold q_copyBox
  rw [zs_ne (z4_ne h), zs_ne (z4_ne h), zs_ne (z4_ne h), zs_ne (z4_ne h), q_copyOre_k (zk rfl), q_copyOre_k (zk rfl), q_copyOre_k (zk rfl), q_cpStamps_k (zk rfl), zs_ne (z4_ne h)]
theorem q_cpBoxes_k {w v n : Nat} {sc : Nat → Nat} {m : ZM} {k : ZN} (h4 : k.1 ≠ 4) (h6 : k.1 ≠ 6) (h7 : k.1 ≠ 7) : q_cpBoxes w v sc m n k = m k := by
  induction n with
  | zero => rfl
  | succ n ih => rw [q_cpBoxes, q_copyBox_k h4 h6 h7, ih]
theorem q_cpBoxes_o {w v n e j : Nat} {sc : Nat → Nat} {m : ZM} (h : w ≠ v) : q_cpBoxes w v sc m n (4, v, e) j = m (4, v, e) j := by
  induction n with
  | zero => rfl
  | succ n ih => rw [q_cpBoxes, q_copyBox_o h, ih]
theorem q_cpw1_k {m : ZM} {w v : Nat} {k : ZN} (h2 : k.1 ≠ 2) (h1 : k.1 ≠ 1) : q_cpw1 m w v k = m k := by
  unfold q_cpw1
  rw [zs_k h1, zcp_k h2]
theorem q_cpw1_9 {m : ZM} {w v : Nat} : q_cpw1 m w v (1, w, 0) 9 = m (1, v, 0) 9 := by
  unfold q_cpw1
  rw [zs_eq rfl, zcp_k (zk rfl)]

set_option maxHeartbeats 4000000 in
set_option maxRecDepth 100000 in
theorem c_X5_loadOfWheel (l : Launch) (D : va_G) (cy : Nat → ClassId) (ad : ZN → Nat) (m : ZM) (sz : Nat) {L : List ZN} (hL : zL L) {w : Nat} (gw : w < 2) {bc : Nat} {sc bu : Nat → Nat} {hq : Nat} (G : gW m w bc sc bu hq) : Met l yX5_loadOfWheel (zws yX5_loadOfWheel cX5_loadOfWheel 3 (some .int)) ({ frames := 2, cells := 0, slots := 0, locals := 42 } : Room) (zPc D cy ad L m sz [.ref (ad (1, w, 0))]) (zQi (fun r m1 => r = q_loadW m w sc bc ∧ m1 = m) D cy ad L sz) 0 0 (zA ad L sz) := by
  refine zopen (Qc := fun sz => zQi (fun r m1 => r = q_loadW m w sc bc ∧ m1 = m) D cy ad L sz) RX5 (plainFor_of_name (by decide)) rfl (Nat.le_of_ble_eq_true rfl) ?_
  intro p e s mi below meth c ls C hr hlocks hml hl H locs hw
  obtain ⟨hx, hb, hts, hown, hK, hNw⟩ := id C
  have hl : lv_has ls 3 [(0, .ref (ad (1, w, 0)))] := hl
  obtain ⟨hbc, lbc, hbx, ⟨f, hf, lf⟩, hhr, lhr⟩ := id G
  refine lv_bipush (v := 20) hx hb dX5_loadOfWheel_0 (by decide) ?_
  refine lv_istore_n (lv' := [(1, .int 20), (0, .ref (ad (1, w, 0)))]) hx hb dX5_loadOfWheel_2 rfl hl (by decide) rfl (fun ls hl => ?_)
  refine lv_iconst (v := 0) hx hb dX5_loadOfWheel_3 (by decide) ?_
  refine lv_istore_n (lv' := [(2, .int 0), (1, .int 20), (0, .ref (ad (1, w, 0)))]) hx hb dX5_loadOfWheel_4 rfl hl (by decide) rfl (fun ls hl => ?_)
  have loop5 : ∀ (z : Nat) (k : Nat) (x : Int32) (H : Heap) (locs : List Loc) (ls : Array Slot), bc - k = z → (k ≤ bc) → (x = q_loadW m w sc k) → zH D cy ad L s.heap H locs m → lv_has ls 3 [(0, .ref (ad (1, w, 0))), (1, .int x), (2, .int (nI k))] → W p l e ({ frames := 2, cells := 0, slots := 0, locals := 42 } : Room) s mi [.ref (ad (1, w, 0))].toArray below meth c H locs 0 0 (MQ below (zQi (fun r m1 => r = q_loadW m w sc bc ∧ m1 = m) D cy ad L s.heap.size) [.ref (ad (1, w, 0))].toArray s 0 0 (zA ad L s.heap.size)) (F0 mi 5 ls []) := by
    intro z
    induction z using Nat.strongRecOn with
    | _ z ih5 =>
    intro k x H locs ls hz5 i5_1 i5_2 hw hl
    refine lv_iload_n hx hb dX5_loadOfWheel_5 rfl (lv_at hl 2 rfl) ?_
    refine lv_aload_n hx hb dX5_loadOfWheel_6 rfl (lv_at hl 0 rfl) ?_
    refine zg_X5_53 C hw (zn1 hL gw) dX5_loadOfWheel_7 ?_
    refine ztop hbc ?_
    refine lv_icmp_ge (tgt := 31) hx hb dX5_loadOfWheel_10 (by decide) (fun c10_1 => ?_) (fun c10_1 => ?_)
    · skip
      have n2 := zle c10_1 (a := bc) (b := k) rfl rfl (by omega) (by omega)
      refine lv_iload_n hx hb dX5_loadOfWheel_31 rfl (lv_at hl 1 rfl) ?_
      exact zret_i C hr hlocks hw dX5_loadOfWheel_32 ⟨by rw [i5_2, show k = bc by omega], rfl⟩
    · skip
      have n3 := znle c10_1 (a := bc) (b := k) rfl rfl (by omega) (by omega)
      refine lv_iload_n hx hb dX5_loadOfWheel_13 rfl (lv_at hl 1 rfl) ?_
      refine lv_aload_n hx hb dX5_loadOfWheel_14 rfl (lv_at hl 0 rfl) ?_
      refine zg_X5_17 C hw (zn1 hL gw) dX5_loadOfWheel_15 ?_
      refine lv_iload_n hx hb dX5_loadOfWheel_18 rfl (lv_at hl 2 rfl) ?_
      refine zald_3N C hw (zn3 hL gw) k (by omega) rfl dX5_loadOfWheel_19 ?_
      refine zafter_i C hw (zrunV (rest := [.int x]) C hml hl.1 hw (zn4 hL gw (by omega)) rfl rfl (c_X0_loadOfStamps l D cy ad m H.size hL gw (by omega) (hbx k (by omega)).1 (hbx k (by omega)).2.1) zv_X5_81 rfl rfl rfl ⟨Nat.le_of_ble_eq_true rfl, Nat.le_of_ble_eq_true rfl⟩ rfl (Nat.le_of_ble_eq_true rfl) dX5_loadOfWheel_20 ⟨Nat.zero_le _, Nat.zero_le _⟩) (fun r6 m5 H locs h4 hw => ?_)
      obtain ⟨er6, h4⟩ := h4
      rw [h4] at hw
      clear h4 m5
      refine lv_iadd hx hb dX5_loadOfWheel_23 ?_
      refine lv_topi (fun x7 ex7 => ?_)
      refine lv_istore_n (lv' := [(1, .int x7), (0, .ref (ad (1, w, 0))), (2, .int (nI k))]) hx hb dX5_loadOfWheel_24 rfl hl (by decide) rfl (fun ls hl => ?_)
      refine lv_iinc (v := (nI (k + 1))) (lv' := [(2, .int (nI (k + 1))), (1, .int x7), (0, .ref (ad (1, w, 0)))]) hx hb dX5_loadOfWheel_25 hl (k := 2) rfl (nI_1 k) (by decide) rfl (fun ls hl => ?_)
      refine lv_goto (tgt := 5) hx hb dX5_loadOfWheel_28 (by decide) ?_
      exact ih5 _ (by omega) (k + 1) x7 _ _ _ rfl (by omega) (by rw [ex7, i5_2, er6]; rfl) hw (lv_sub hl [2, 1, 0] rfl)
  exact loop5 _ 0 20 _ _ _ rfl (Nat.zero_le _) rfl hw (lv_sub hl [2, 1, 0] rfl)

set_option maxHeartbeats 4000000 in
set_option maxRecDepth 100000 in
theorem c_X5_tinOfBoxes (l : Launch) (D : va_G) (cy : Nat → ClassId) (ad : ZN → Nat) (m : ZM) (sz : Nat) {L : List ZN} (hL : zL L) {w : Nat} (gw : w < 2) {bc : Nat} {sc bu : Nat → Nat} {hq : Nat} (G : gW m w bc sc bu hq) : Met l yX5_tinOfBoxes (zws yX5_tinOfBoxes cX5_tinOfBoxes 3 (some .int)) ({ frames := 1, cells := 0, slots := 0, locals := 20 } : Room) (zPc D cy ad L m sz [.ref (ad (1, w, 0))]) (zQi (fun r m1 => r = q_tinBoxes m w bc ∧ m1 = m) D cy ad L sz) 0 0 (zA ad L sz) := by
  refine zopen (Qc := fun sz => zQi (fun r m1 => r = q_tinBoxes m w bc ∧ m1 = m) D cy ad L sz) RX5 (plainFor_of_name (by decide)) rfl (Nat.le_of_ble_eq_true rfl) ?_
  intro p e s mi below meth c ls C hr hlocks hml hl H locs hw
  obtain ⟨hx, hb, hts, hown, hK, hNw⟩ := id C
  have hl : lv_has ls 3 [(0, .ref (ad (1, w, 0)))] := hl
  obtain ⟨hbc, lbc, hbx, ⟨f, hf, lf⟩, hhr, lhr⟩ := id G
  refine lv_iconst (v := 0) hx hb dX5_tinOfBoxes_0 (by decide) ?_
  refine lv_istore_n (lv' := [(1, .int 0), (0, .ref (ad (1, w, 0)))]) hx hb dX5_tinOfBoxes_1 rfl hl (by decide) rfl (fun ls hl => ?_)
  refine lv_iconst (v := 0) hx hb dX5_tinOfBoxes_2 (by decide) ?_
  refine lv_istore_n (lv' := [(2, .int 0), (1, .int 0), (0, .ref (ad (1, w, 0)))]) hx hb dX5_tinOfBoxes_3 rfl hl (by decide) rfl (fun ls hl => ?_)
  have loop4 : ∀ (z : Nat) (k : Nat) (x : Int32) (H : Heap) (locs : List Loc) (ls : Array Slot), bc - k = z → (k ≤ bc) → (x = q_tinBoxes m w k) → zH D cy ad L s.heap H locs m → lv_has ls 3 [(0, .ref (ad (1, w, 0))), (1, .int x), (2, .int (nI k))] → W p l e ({ frames := 1, cells := 0, slots := 0, locals := 20 } : Room) s mi [.ref (ad (1, w, 0))].toArray below meth c H locs 0 0 (MQ below (zQi (fun r m1 => r = q_tinBoxes m w bc ∧ m1 = m) D cy ad L s.heap.size) [.ref (ad (1, w, 0))].toArray s 0 0 (zA ad L s.heap.size)) (F0 mi 4 ls []) := by
    intro z
    induction z using Nat.strongRecOn with
    | _ z ih4 =>
    intro k x H locs ls hz4 i4_1 i4_2 hw hl
    refine lv_iload_n hx hb dX5_tinOfBoxes_4 rfl (lv_at hl 2 rfl) ?_
    refine lv_aload_n hx hb dX5_tinOfBoxes_5 rfl (lv_at hl 0 rfl) ?_
    refine zg_X5_53 C hw (zn1 hL gw) dX5_tinOfBoxes_6 ?_
    refine ztop hbc ?_
    refine lv_icmp_ge (tgt := 30) hx hb dX5_tinOfBoxes_9 (by decide) (fun c9_1 => ?_) (fun c9_1 => ?_)
    · skip
      have n2 := zle c9_1 (a := bc) (b := k) rfl rfl (by omega) (by omega)
      refine lv_iload_n hx hb dX5_tinOfBoxes_30 rfl (lv_at hl 1 rfl) ?_
      exact zret_i C hr hlocks hw dX5_tinOfBoxes_31 ⟨by rw [i4_2, show k = bc by omega], rfl⟩
    · skip
      have n3 := znle c9_1 (a := bc) (b := k) rfl rfl (by omega) (by omega)
      refine lv_iload_n hx hb dX5_tinOfBoxes_12 rfl (lv_at hl 1 rfl) ?_
      refine lv_aload_n hx hb dX5_tinOfBoxes_13 rfl (lv_at hl 0 rfl) ?_
      refine zg_X5_17 C hw (zn1 hL gw) dX5_tinOfBoxes_14 ?_
      refine lv_iload_n hx hb dX5_tinOfBoxes_17 rfl (lv_at hl 2 rfl) ?_
      refine zald_3N C hw (zn3 hL gw) k (by omega) rfl dX5_tinOfBoxes_18 ?_
      refine zafter_i C hw (zrunV (rest := [.int x]) C hml hl.1 hw (zn4 hL gw (by omega)) rfl rfl (c_X0_tinOfSizes l D cy ad m H.size hL gw (by omega)) zv_X5_84 rfl rfl rfl ⟨Nat.le_of_ble_eq_true rfl, Nat.le_of_ble_eq_true rfl⟩ rfl (Nat.le_of_ble_eq_true rfl) dX5_tinOfBoxes_19 ⟨Nat.zero_le _, Nat.zero_le _⟩) (fun r6 m5 H locs h4 hw => ?_)
      obtain ⟨er6, h4⟩ := h4
      rw [h4] at hw
      clear h4 m5
      refine lv_iadd hx hb dX5_tinOfBoxes_22 ?_
      refine lv_topi (fun x7 ex7 => ?_)
      refine lv_istore_n (lv' := [(1, .int x7), (0, .ref (ad (1, w, 0))), (2, .int (nI k))]) hx hb dX5_tinOfBoxes_23 rfl hl (by decide) rfl (fun ls hl => ?_)
      refine lv_iinc (v := (nI (k + 1))) (lv' := [(2, .int (nI (k + 1))), (1, .int x7), (0, .ref (ad (1, w, 0)))]) hx hb dX5_tinOfBoxes_24 hl (k := 2) rfl (nI_1 k) (by decide) rfl (fun ls hl => ?_)
      refine lv_goto (tgt := 4) hx hb dX5_tinOfBoxes_27 (by decide) ?_
      exact ih4 _ (by omega) (k + 1) x7 _ _ _ rfl (by omega) (by rw [ex7, i4_2, er6]; rfl) hw (lv_sub hl [2, 1, 0] rfl)
  exact loop4 _ 0 0 _ _ _ rfl (Nat.zero_le _) rfl hw (lv_sub hl [2, 1, 0] rfl)

set_option maxHeartbeats 4000000 in
set_option maxRecDepth 100000 in
theorem c_X5_tinOfBuddles (l : Launch) (D : va_G) (cy : Nat → ClassId) (ad : ZN → Nat) (m : ZM) (sz : Nat) {L : List ZN} (hL : zL L) {w : Nat} (gw : w < 2) : Met l yX5_tinOfBuddles (zws yX5_tinOfBuddles cX5_tinOfBuddles 3 (some .int)) ({ frames := 0, cells := 0, slots := 0, locals := 0 } : Room) (zPc D cy ad L m sz [.ref (ad (1, w, 0))]) (zQi (fun r m1 => r = q_tinBuds m w 3 ∧ m1 = m) D cy ad L sz) 0 0 (zA ad L sz) := by
  refine zopen (Qc := fun sz => zQi (fun r m1 => r = q_tinBuds m w 3 ∧ m1 = m) D cy ad L sz) RX5 (plainFor_of_name (by decide)) rfl (Nat.le_of_ble_eq_true rfl) ?_
  intro p e s mi below meth c ls C hr hlocks hml hl H locs hw
  obtain ⟨hx, hb, hts, hown, hK, hNw⟩ := id C
  have hl : lv_has ls 3 [(0, .ref (ad (1, w, 0)))] := hl
  refine lv_iconst (v := 0) hx hb dX5_tinOfBuddles_0 (by decide) ?_
  refine lv_istore_n (lv' := [(1, .int 0), (0, .ref (ad (1, w, 0)))]) hx hb dX5_tinOfBuddles_1 rfl hl (by decide) rfl (fun ls hl => ?_)
  refine lv_iconst (v := 0) hx hb dX5_tinOfBuddles_2 (by decide) ?_
  refine lv_istore_n (lv' := [(2, .int 0), (1, .int 0), (0, .ref (ad (1, w, 0)))]) hx hb dX5_tinOfBuddles_3 rfl hl (by decide) rfl (fun ls hl => ?_)
  have loop4 : ∀ (z : Nat) (k : Nat) (x : Int32) (H : Heap) (locs : List Loc) (ls : Array Slot), 3 - k = z → (k ≤ 3) → (x = q_tinBuds m w k) → zH D cy ad L s.heap H locs m → lv_has ls 3 [(0, .ref (ad (1, w, 0))), (1, .int x), (2, .int (nI k))] → W p l e ({ frames := 0, cells := 0, slots := 0, locals := 0 } : Room) s mi [.ref (ad (1, w, 0))].toArray below meth c H locs 0 0 (MQ below (zQi (fun r m1 => r = q_tinBuds m w 3 ∧ m1 = m) D cy ad L s.heap.size) [.ref (ad (1, w, 0))].toArray s 0 0 (zA ad L s.heap.size)) (F0 mi 4 ls []) := by
    intro z
    induction z using Nat.strongRecOn with
    | _ z ih4 =>
    intro k x H locs ls hz4 i4_1 i4_2 hw hl
    refine lv_iload_n hx hb dX5_tinOfBuddles_4 rfl (lv_at hl 2 rfl) ?_
    refine lv_iconst (v := 3) hx hb dX5_tinOfBuddles_5 (by decide) ?_
    refine lv_icmp_ge (tgt := 27) hx hb dX5_tinOfBuddles_6 (by decide) (fun c6_1 => ?_) (fun c6_1 => ?_)
    · skip
      have n2 := zle c6_1 (a := 3) (b := k) rfl rfl (by omega) (by omega)
      refine lv_iload_n hx hb dX5_tinOfBuddles_27 rfl (lv_at hl 1 rfl) ?_
      exact zret_i C hr hlocks hw dX5_tinOfBuddles_28 ⟨by rw [i4_2, show k = 3 by omega], rfl⟩
    · skip
      have n3 := znle c6_1 (a := 3) (b := k) rfl rfl (by omega) (by omega)
      refine lv_iload_n hx hb dX5_tinOfBuddles_9 rfl (lv_at hl 1 rfl) ?_
      refine lv_aload_n hx hb dX5_tinOfBuddles_10 rfl (lv_at hl 0 rfl) ?_
      refine zg_X5_31 C hw (zn1 hL gw) dX5_tinOfBuddles_11 ?_
      refine lv_iload_n hx hb dX5_tinOfBuddles_14 rfl (lv_at hl 2 rfl) ?_
      refine zald_11N C hw (zn11 hL gw) k (by omega) rfl dX5_tinOfBuddles_15 ?_
      refine zg_X5_69 C hw (zn7 hL gw (by omega)) dX5_tinOfBuddles_16 ?_
      refine lv_iadd hx hb dX5_tinOfBuddles_19 ?_
      refine lv_topi (fun x4 ex4 => ?_)
      refine lv_istore_n (lv' := [(1, .int x4), (0, .ref (ad (1, w, 0))), (2, .int (nI k))]) hx hb dX5_tinOfBuddles_20 rfl hl (by decide) rfl (fun ls hl => ?_)
      refine lv_iinc (v := (nI (k + 1))) (lv' := [(2, .int (nI (k + 1))), (1, .int x4), (0, .ref (ad (1, w, 0)))]) hx hb dX5_tinOfBuddles_21 hl (k := 2) rfl (nI_1 k) (by decide) rfl (fun ls hl => ?_)
      refine lv_goto (tgt := 4) hx hb dX5_tinOfBuddles_24 (by decide) ?_
      exact ih4 _ (by omega) (k + 1) x4 _ _ _ rfl (by omega) (by rw [ex4, i4_2]; rfl) hw (lv_sub hl [2, 1, 0] rfl)
  exact loop4 _ 0 0 _ _ _ rfl (Nat.zero_le _) rfl hw (lv_sub hl [2, 1, 0] rfl)

set_option maxHeartbeats 4000000 in
set_option maxRecDepth 100000 in
theorem c_X5_tellOfWorks (l : Launch) (D : va_G) (cy : Nat → ClassId) (ad : ZN → Nat) (m : ZM) (sz : Nat) {L : List ZN} (hL : zL L) {w : Nat} (gw : w < 2) {bc : Nat} {sc bu : Nat → Nat} {hq : Nat} (G : gW m w bc sc bu hq) {fq hn : Nat} (hfq : m (8, w, 0) 1 = nI fq) (lfq : fq < 30) (hhn : m (8, w, 0) 2 = nI hn) (lhn : hn ≤ 30) (k : Int32) : Met l yX5_tellOfWorks (zws yX5_tellOfWorks cX5_tellOfWorks 2 (some .int)) ({ frames := 3, cells := 0, slots := 0, locals := 65 } : Room) (zPc D cy ad L m sz [.ref (ad (1, w, 0)), .int k]) (zQi (fun r m1 => r = q_tellWorks m w bc sc fq hn k ∧ m1 = m) D cy ad L sz) 0 0 (zA ad L sz) := by
  refine zopen (Qc := fun sz => zQi (fun r m1 => r = q_tellWorks m w bc sc fq hn k ∧ m1 = m) D cy ad L sz) RX5 (plainFor_of_name (by decide)) rfl (Nat.le_of_ble_eq_true rfl) ?_
  intro p e s mi below meth c ls C hr hlocks hml hl H locs hw
  obtain ⟨hx, hb, hts, hown, hK, hNw⟩ := id C
  have hl : lv_has ls 2 [(0, .ref (ad (1, w, 0))), (1, .int k)] := hl
  refine lv_iload_n hx hb dX5_tellOfWorks_0 rfl (lv_at hl 1 rfl) ?_
  by_cases q1 : k = 0
  · skip
    refine lv_tableIn (off := 67) (tgt := 68) hx hb dX5_tellOfWorks_1 (by rw [q1]; decide) (by rw [q1]; decide) (by rw [q1]; rfl) (by decide) ?_
    refine lv_aload_n hx hb dX5_tellOfWorks_68 rfl (lv_at hl 0 rfl) ?_
    refine zg_X5_50 C hw (zn1 hL gw) dX5_tellOfWorks_69 ?_
    exact zret_i C hr hlocks hw dX5_tellOfWorks_72 ⟨((if_pos q1).symm), rfl⟩
  by_cases q2 : k = 1
  · skip
    refine lv_tableIn (off := 72) (tgt := 73) hx hb dX5_tellOfWorks_1 (by rw [q2]; decide) (by rw [q2]; decide) (by rw [q2]; rfl) (by decide) ?_
    refine lv_aload_n hx hb dX5_tellOfWorks_73 rfl (lv_at hl 0 rfl) ?_
    refine zg_X5_43 C hw (zn1 hL gw) dX5_tellOfWorks_74 ?_
    exact zret_i C hr hlocks hw dX5_tellOfWorks_77 ⟨(((if_neg q1).trans (if_pos q2)).symm), rfl⟩
  by_cases q3 : k = 2
  · skip
    refine lv_tableIn (off := 77) (tgt := 78) hx hb dX5_tellOfWorks_1 (by rw [q3]; decide) (by rw [q3]; decide) (by rw [q3]; rfl) (by decide) ?_
    refine lv_aload_n hx hb dX5_tellOfWorks_78 rfl (lv_at hl 0 rfl) ?_
    refine zg_X5_47 C hw (zn1 hL gw) dX5_tellOfWorks_79 ?_
    exact zret_i C hr hlocks hw dX5_tellOfWorks_82 ⟨(((if_neg q1).trans ((if_neg q2).trans (if_pos q3))).symm), rfl⟩
  by_cases q4 : k = 3
  · skip
    refine lv_tableIn (off := 82) (tgt := 83) hx hb dX5_tellOfWorks_1 (by rw [q4]; decide) (by rw [q4]; decide) (by rw [q4]; rfl) (by decide) ?_
    refine lv_aload_n hx hb dX5_tellOfWorks_83 rfl (lv_at hl 0 rfl) ?_
    refine zg_X5_53 C hw (zn1 hL gw) dX5_tellOfWorks_84 ?_
    exact zret_i C hr hlocks hw dX5_tellOfWorks_87 ⟨(((if_neg q1).trans ((if_neg q2).trans ((if_neg q3).trans (if_pos q4)))).symm), rfl⟩
  by_cases q5 : k = 4
  · skip
    refine lv_tableIn (off := 87) (tgt := 88) hx hb dX5_tellOfWorks_1 (by rw [q5]; decide) (by rw [q5]; decide) (by rw [q5]; rfl) (by decide) ?_
    refine lv_aload_n hx hb dX5_tellOfWorks_88 rfl (lv_at hl 0 rfl) ?_
    refine zg_X5_25 C hw (zn1 hL gw) dX5_tellOfWorks_89 ?_
    refine zg_X5_56 C hw (zn8 hL gw) dX5_tellOfWorks_92 ?_
    exact zret_i C hr hlocks hw dX5_tellOfWorks_95 ⟨(((if_neg q1).trans ((if_neg q2).trans ((if_neg q3).trans ((if_neg q4).trans (if_pos q5))))).symm), rfl⟩
  by_cases q6 : k = 5
  · skip
    refine lv_tableIn (off := 95) (tgt := 96) hx hb dX5_tellOfWorks_1 (by rw [q6]; decide) (by rw [q6]; decide) (by rw [q6]; rfl) (by decide) ?_
    refine lv_aload_n hx hb dX5_tellOfWorks_96 rfl (lv_at hl 0 rfl) ?_
    refine zg_X5_25 C hw (zn1 hL gw) dX5_tellOfWorks_97 ?_
    refine zafter_i C hw (zrunV (rest := []) C hml hl.1 hw (zn8 hL gw) rfl rfl (c_X1_oreOfLots l D cy ad m H.size hL gw hfq lfq hhn lhn) zv_X5_59 rfl rfl rfl ⟨Nat.le_of_ble_eq_true rfl, Nat.le_of_ble_eq_true rfl⟩ rfl (Nat.le_of_ble_eq_true rfl) dX5_tellOfWorks_100 ⟨Nat.zero_le _, Nat.zero_le _⟩) (fun r9 m8 H locs h7 hw => ?_)
    obtain ⟨er9, h7⟩ := h7
    rw [h7] at hw
    clear h7 m8
    exact zret_i C hr hlocks hw dX5_tellOfWorks_103 ⟨(er9.trans ((if_neg q1).trans ((if_neg q2).trans ((if_neg q3).trans ((if_neg q4).trans ((if_neg q5).trans (if_pos q6)))))).symm), rfl⟩
  by_cases q10 : k = 6
  · skip
    refine lv_tableIn (off := 103) (tgt := 104) hx hb dX5_tellOfWorks_1 (by rw [q10]; decide) (by rw [q10]; decide) (by rw [q10]; rfl) (by decide) ?_
    refine lv_aload_n hx hb dX5_tellOfWorks_104 rfl (lv_at hl 0 rfl) ?_
    refine zafter_i C hw (zrunV (rest := []) C hml hl.1 hw (zn1 hL gw) rfl rfl (c_X5_loadOfWheel l D cy ad m H.size hL gw G) zv_X5_63 rfl rfl rfl ⟨Nat.le_of_ble_eq_true rfl, Nat.le_of_ble_eq_true rfl⟩ rfl (Nat.le_of_ble_eq_true rfl) dX5_tellOfWorks_105 ⟨Nat.zero_le _, Nat.zero_le _⟩) (fun r13 m12 H locs h11 hw => ?_)
    obtain ⟨er13, h11⟩ := h11
    rw [h11] at hw
    clear h11 m12
    exact zret_i C hr hlocks hw dX5_tellOfWorks_108 ⟨(er13.trans ((if_neg q1).trans ((if_neg q2).trans ((if_neg q3).trans ((if_neg q4).trans ((if_neg q5).trans ((if_neg q6).trans (if_pos q10))))))).symm), rfl⟩
  by_cases q14 : k = 7
  · skip
    refine lv_tableIn (off := 108) (tgt := 109) hx hb dX5_tellOfWorks_1 (by rw [q14]; decide) (by rw [q14]; decide) (by rw [q14]; rfl) (by decide) ?_
    refine lv_aload_n hx hb dX5_tellOfWorks_109 rfl (lv_at hl 0 rfl) ?_
    refine zg_X5_36 C hw (zn1 hL gw) dX5_tellOfWorks_110 ?_
    refine zg_X5_66 C hw (zn7 hL gw (by omega)) dX5_tellOfWorks_113 ?_
    exact zret_i C hr hlocks hw dX5_tellOfWorks_116 ⟨(((if_neg q1).trans ((if_neg q2).trans ((if_neg q3).trans ((if_neg q4).trans ((if_neg q5).trans ((if_neg q6).trans ((if_neg q10).trans (if_pos q14)))))))).symm), rfl⟩
  by_cases q15 : k = 8
  · skip
    refine lv_tableIn (off := 116) (tgt := 117) hx hb dX5_tellOfWorks_1 (by rw [q15]; decide) (by rw [q15]; decide) (by rw [q15]; rfl) (by decide) ?_
    refine lv_aload_n hx hb dX5_tellOfWorks_117 rfl (lv_at hl 0 rfl) ?_
    refine zg_X5_36 C hw (zn1 hL gw) dX5_tellOfWorks_118 ?_
    refine zg_X5_69 C hw (zn7 hL gw (by omega)) dX5_tellOfWorks_121 ?_
    exact zret_i C hr hlocks hw dX5_tellOfWorks_124 ⟨(((if_neg q1).trans ((if_neg q2).trans ((if_neg q3).trans ((if_neg q4).trans ((if_neg q5).trans ((if_neg q6).trans ((if_neg q10).trans ((if_neg q14).trans (if_pos q15))))))))).symm), rfl⟩
  by_cases q16 : k = 9
  · skip
    refine lv_tableIn (off := 124) (tgt := 125) hx hb dX5_tellOfWorks_1 (by rw [q16]; decide) (by rw [q16]; decide) (by rw [q16]; rfl) (by decide) ?_
    refine lv_aload_n hx hb dX5_tellOfWorks_125 rfl (lv_at hl 0 rfl) ?_
    refine zg_X5_72 C hw (zn1 hL gw) dX5_tellOfWorks_126 ?_
    exact zret_i C hr hlocks hw dX5_tellOfWorks_129 ⟨(((if_neg q1).trans ((if_neg q2).trans ((if_neg q3).trans ((if_neg q4).trans ((if_neg q5).trans ((if_neg q6).trans ((if_neg q10).trans ((if_neg q14).trans ((if_neg q15).trans (if_pos q16)))))))))).symm), rfl⟩
  by_cases q17 : k = 10
  · skip
    refine lv_tableIn (off := 129) (tgt := 130) hx hb dX5_tellOfWorks_1 (by rw [q17]; decide) (by rw [q17]; decide) (by rw [q17]; rfl) (by decide) ?_
    refine lv_aload_n hx hb dX5_tellOfWorks_130 rfl (lv_at hl 0 rfl) ?_
    refine zg_X5_40 C hw (zn1 hL gw) dX5_tellOfWorks_131 ?_
    refine zg_X5_69 C hw (zn7 hL gw (by omega)) dX5_tellOfWorks_134 ?_
    exact zret_i C hr hlocks hw dX5_tellOfWorks_137 ⟨(((if_neg q1).trans ((if_neg q2).trans ((if_neg q3).trans ((if_neg q4).trans ((if_neg q5).trans ((if_neg q6).trans ((if_neg q10).trans ((if_neg q14).trans ((if_neg q15).trans ((if_neg q16).trans (if_pos q17))))))))))).symm), rfl⟩
  by_cases q18 : k = 11
  · skip
    refine lv_tableIn (off := 137) (tgt := 138) hx hb dX5_tellOfWorks_1 (by rw [q18]; decide) (by rw [q18]; decide) (by rw [q18]; rfl) (by decide) ?_
    refine lv_aload_n hx hb dX5_tellOfWorks_138 rfl (lv_at hl 0 rfl) ?_
    refine zg_X5_40 C hw (zn1 hL gw) dX5_tellOfWorks_139 ?_
    refine zg_X5_66 C hw (zn7 hL gw (by omega)) dX5_tellOfWorks_142 ?_
    exact zret_i C hr hlocks hw dX5_tellOfWorks_145 ⟨(((if_neg q1).trans ((if_neg q2).trans ((if_neg q3).trans ((if_neg q4).trans ((if_neg q5).trans ((if_neg q6).trans ((if_neg q10).trans ((if_neg q14).trans ((if_neg q15).trans ((if_neg q16).trans ((if_neg q17).trans (if_pos q18)))))))))))).symm), rfl⟩
  by_cases q19 : k = 12
  · skip
    refine lv_tableIn (off := 145) (tgt := 146) hx hb dX5_tellOfWorks_1 (by rw [q19]; decide) (by rw [q19]; decide) (by rw [q19]; rfl) (by decide) ?_
    refine lv_aload_n hx hb dX5_tellOfWorks_146 rfl (lv_at hl 0 rfl) ?_
    refine zg_X5_75 C hw (zn1 hL gw) dX5_tellOfWorks_147 ?_
    exact zret_i C hr hlocks hw dX5_tellOfWorks_150 ⟨(((if_neg q1).trans ((if_neg q2).trans ((if_neg q3).trans ((if_neg q4).trans ((if_neg q5).trans ((if_neg q6).trans ((if_neg q10).trans ((if_neg q14).trans ((if_neg q15).trans ((if_neg q16).trans ((if_neg q17).trans ((if_neg q18).trans (if_pos q19))))))))))))).symm), rfl⟩
  refine lv_tableOut (tgt := 151) hx hb dX5_tellOfWorks_1 (zsw13 q1 q2 q3 q4 q5 q6 q10 q14 q15 q16 q17 q18 q19) (by decide) ?_
  refine lv_aload_n hx hb dX5_tellOfWorks_151 rfl (lv_at hl 0 rfl) ?_
  refine zafter_i C hw (zrunV (rest := []) C hml hl.1 hw (zn1 hL gw) rfl rfl (c_X5_tinOfBoxes l D cy ad m H.size hL gw G) zv_X5_78 rfl rfl rfl ⟨Nat.le_of_ble_eq_true rfl, Nat.le_of_ble_eq_true rfl⟩ rfl (Nat.le_of_ble_eq_true rfl) dX5_tellOfWorks_152 ⟨Nat.zero_le _, Nat.zero_le _⟩) (fun r22 m21 H locs h20 hw => ?_)
  obtain ⟨er22, h20⟩ := h20
  rw [h20] at hw
  clear h20 m21
  exact zret_i C hr hlocks hw dX5_tellOfWorks_155 ⟨(er22.trans ((if_neg q1).trans ((if_neg q2).trans ((if_neg q3).trans ((if_neg q4).trans ((if_neg q5).trans ((if_neg q6).trans ((if_neg q10).trans ((if_neg q14).trans ((if_neg q15).trans ((if_neg q16).trans ((if_neg q17).trans ((if_neg q18).trans (if_neg q19))))))))))))).symm), rfl⟩

set_option maxHeartbeats 4000000 in
set_option maxRecDepth 100000 in
theorem c_X5_takeWater (l : Launch) (D : va_G) (cy : Nat → ClassId) (ad : ZN → Nat) (m : ZM) (sz : Nat) {L : List ZN} (hL : zL L) {w : Nat} (gw : w < 2) {bc : Nat} {sc bu : Nat → Nat} {hq : Nat} (G : gW m w bc sc bu hq) : Met l yX5_takeWater (zws yX5_takeWater cX5_takeWater 3 (some .int)) ({ frames := 1, cells := 0, slots := 0, locals := 22 } : Room) (zPc D cy ad L m sz [.ref (ad (1, w, 0))]) (zQi (fun r m1 => r = q_taken m w hq ∧ m1 = q_takeM m w hq) D cy ad L sz) 0 0 (zA ad L sz) := by
  refine zopen (Qc := fun sz => zQi (fun r m1 => r = q_taken m w hq ∧ m1 = q_takeM m w hq) D cy ad L sz) RX5 (plainFor_of_name (by decide)) rfl (Nat.le_of_ble_eq_true rfl) ?_
  intro p e s mi below meth c ls C hr hlocks hml hl H locs hw
  obtain ⟨hx, hb, hts, hown, hK, hNw⟩ := id C
  have hl : lv_has ls 3 [(0, .ref (ad (1, w, 0)))] := hl
  obtain ⟨hbc, lbc, hbx, ⟨f, hf, lf⟩, hhr, lhr⟩ := id G
  refine lv_sipush (v := 20000) hx hb dX5_takeWater_0 (by decide) ?_
  refine lv_aload_n hx hb dX5_takeWater_3 rfl (lv_at hl 0 rfl) ?_
  refine zg_X5_43 C hw (zn1 hL gw) dX5_takeWater_4 ?_
  refine lv_aload_n hx hb dX5_takeWater_7 rfl (lv_at hl 0 rfl) ?_
  refine zg_X5_9 C hw (zn1 hL gw) dX5_takeWater_8 ?_
  refine lv_aload_n hx hb dX5_takeWater_11 rfl (lv_at hl 0 rfl) ?_
  refine zg_X5_50 C hw (zn1 hL gw) dX5_takeWater_12 ?_
  refine ztop hhr ?_
  refine lv_bipush (v := 24) hx hb dX5_takeWater_15 (by decide) ?_
  refine zafter_i C hw (zrunS (rest := [.ref (ad (2, w, 24)), .int (m (1, w, 0) 7), .int 20000]) C hml hl.1 hw (c_J9_floorMod_7cf53 l D cy ad m H.size (nI hq) 24 (by decide)) zv_X5_103 rfl rfl rfl ⟨Nat.le_of_ble_eq_true rfl, Nat.le_of_ble_eq_true rfl⟩ rfl (Nat.le_of_ble_eq_true rfl) dX5_takeWater_17 ⟨Nat.zero_le _, Nat.zero_le _⟩) (fun r3 m2 H locs h1 hw => ?_)
  obtain ⟨er3, h1⟩ := h1
  rw [h1] at hw
  clear h1 m2
  refine ztop (er3.trans (q_fmodN (a := hq) (d := 24) (by omega) (by decide) (by decide))) ?_
  refine zaldN C hw (zn2 hL gw) (hq % 24) (Nat.mod_lt _ (by decide)) rfl (by decide) dX5_takeWater_20 ?_
  refine lv_iadd hx hb dX5_takeWater_21 ?_
  refine va_mmin hx hb (hml.trans hl.1.symm) hown (hts _ zL_X5_106) (hts _ zT_min) (hts _ zN_Math) (hts _ zO_min) (Nat.le_of_ble_eq_true rfl) (Nat.le_of_ble_eq_true rfl) (Nat.zero_le _) (Nat.zero_le _) dX5_takeWater_22 ?_
  refine lv_topi (fun x4 ex4 => ?_)
  refine lv_istore_n (lv' := [(1, .int x4), (0, .ref (ad (1, w, 0)))]) hx hb dX5_takeWater_25 rfl hl (by decide) rfl (fun ls hl => ?_)
  refine lv_iload_n hx hb dX5_takeWater_26 rfl (lv_at hl 0 rfl) ?_
  refine lv_aload_n hx hb dX5_takeWater_27 rfl (lv_at hl 1 rfl) ?_
  refine zg_X5_47 C hw (zn1 hL gw) dX5_takeWater_28 ?_
  refine lv_bipush (v := 40) hx hb dX5_takeWater_31 (by decide) ?_
  refine lv_imul hx hb dX5_takeWater_33 ?_
  refine va_mmin hx hb (hml.trans hl.1.symm) hown (hts _ zL_X5_106) (hts _ zT_min) (hts _ zN_Math) (hts _ zO_min) (Nat.le_of_ble_eq_true rfl) (Nat.le_of_ble_eq_true rfl) (Nat.zero_le _) (Nat.zero_le _) dX5_takeWater_34 ?_
  refine lv_topi (fun x5 ex5 => ?_)
  refine lv_istore_n (lv' := [(2, .int x5), (1, .int x4), (0, .ref (ad (1, w, 0)))]) hx hb dX5_takeWater_37 rfl hl (by decide) rfl (fun ls hl => ?_)
  refine lv_aload_n hx hb dX5_takeWater_38 rfl (lv_at hl 2 rfl) ?_
  refine lv_iload_n hx hb dX5_takeWater_39 rfl (lv_at hl 1 rfl) ?_
  refine lv_iload_n hx hb dX5_takeWater_40 rfl (lv_at hl 0 rfl) ?_
  refine lv_isub hx hb dX5_takeWater_41 ?_
  refine zp_X5_43 C hw (zn1 hL gw) dX5_takeWater_42 (fun H locs m6 em6 hw => ?_)
  refine lv_iload_n hx hb dX5_takeWater_45 rfl (lv_at hl 0 rfl) ?_
  exact zret_i C hr hlocks hw dX5_takeWater_46 ⟨(by first | rfl | (subst_vars; first | rfl)), (by first | rfl | (subst_vars; first | rfl))⟩

set_option maxHeartbeats 4000000 in
set_option maxRecDepth 100000 in
theorem c_X5_workBox (l : Launch) (D : va_G) (cy : Nat → ClassId) (ad : ZN → Nat) (m : ZM) (sz : Nat) {L : List ZN} (hL : zL L) {w b : Nat} (gw : w < 2) (gb : b < 4) {cn ub f : Nat} (hc : m (4, w, b) 4 = nI cn) (lc : cn ≤ 4) (hu : m (4, w, b) 6 = nI ub) (lu : ub < 3) (hf : m (8, w, 0) 1 = nI f) (lf : f < 30) (x t : Int32) : Met l yX5_workBox (zws yX5_workBox cX5_workBox 4 none) ({ frames := 3, cells := 0, slots := 0, locals := 73 } : Room) (zPc D cy ad L m sz [.ref (ad (1, w, 0)), .ref (ad (4, w, b)), .int x, .int t]) (zQv (fun m1 => m1 = q_work m w b cn ub x t) D cy ad L sz) 0 0 (zA ad L sz) := by
  refine zopen (Qc := fun sz => zQv (fun m1 => m1 = q_work m w b cn ub x t) D cy ad L sz) RX5 (plainFor_of_name (by decide)) rfl (Nat.le_of_ble_eq_true rfl) ?_
  intro p e s mi below meth c ls C hr hlocks hml hl H locs hw
  obtain ⟨hx, hb, hts, hown, hK, hNw⟩ := id C
  have hl : lv_has ls 4 [(0, .ref (ad (1, w, 0))), (1, .ref (ad (4, w, b))), (2, .int x), (3, .int t)] := hl
  refine lv_aload_n hx hb dX5_workBox_0 rfl (lv_at hl 1 rfl) ?_
  refine lv_aload_n hx hb dX5_workBox_1 rfl (lv_at hl 0 rfl) ?_
  refine zg_X5_25 C hw (zn1 hL gw) dX5_workBox_2 ?_
  refine lv_aload_n hx hb dX5_workBox_5 rfl (lv_at hl 1 rfl) ?_
  refine zg_X5_109 C hw (zn4 hL gw (by omega)) dX5_workBox_6 ?_
  refine lv_aload_n hx hb dX5_workBox_9 rfl (lv_at hl 1 rfl) ?_
  refine zg_X5_112 C hw (zn4 hL gw (by omega)) dX5_workBox_10 ?_
  refine lv_aload_n hx hb dX5_workBox_13 rfl (lv_at hl 1 rfl) ?_
  refine zg_X5_115 C hw (zn4 hL gw (by omega)) dX5_workBox_14 ?_
  refine zafter_i C hw (zrunV (rest := [.ref (ad (4, w, b))]) C hml hl.1 hw (zn8 hL gw) rfl rfl (c_X1_feedInto l D cy ad m H.size hL gw hf lf gw (by omega) (m (4, w, b) 5) (m (4, w, b) 7)) zv_X5_118 rfl rfl rfl ⟨Nat.le_of_ble_eq_true rfl, Nat.le_of_ble_eq_true rfl⟩ rfl (Nat.le_of_ble_eq_true rfl) dX5_workBox_17 ⟨Nat.zero_le _, Nat.zero_le _⟩) (fun r3 m2 H locs h1 hw => ?_)
  obtain ⟨er3, em2⟩ := h1
  refine zp_X5_115 C hw (zn4 hL gw (by omega)) dX5_workBox_20 (fun H locs m4 em4 hw => ?_)
  have h1c : m4 (4, w, b) 4 = nI cn := by rw [em4, zs_ej (by decide), em2, q_feed_k rfl (zk rfl) (zk rfl)]; exact hc
  have h1cu : m4 (4, w, b) 6 = nI ub := by rw [em4, zs_ej (by decide), em2, q_feed_k rfl (zk rfl) (zk rfl)]; exact hu
  refine lv_aload_n hx hb dX5_workBox_23 rfl (lv_at hl 1 rfl) ?_
  refine lv_iload_n hx hb dX5_workBox_24 rfl (lv_at hl 3 rfl) ?_
  refine zafter_v C hw (zrunV (rest := []) C hml hl.1 hw (zn4 hL gw (by omega)) rfl rfl (c_X0_blow l D cy ad m4 H.size hL gw gb h1c lc t) zv_X5_122 rfl rfl rfl ⟨Nat.le_of_ble_eq_true rfl, Nat.le_of_ble_eq_true rfl⟩ rfl (Nat.le_of_ble_eq_true rfl) dX5_workBox_25 ⟨Nat.zero_le _, Nat.zero_le _⟩) (fun m6 H locs h5 hw => ?_)
  have em6 := h5
  refine lv_aload_n hx hb dX5_workBox_28 rfl (lv_at hl 0 rfl) ?_
  refine lv_dup hx hb dX5_workBox_29 rfl ?_
  refine zg_X5_72 C hw (zn1 hL gw) dX5_workBox_30 ?_
  refine lv_aload_n hx hb dX5_workBox_33 rfl (lv_at hl 1 rfl) ?_
  refine zafter_i C hw (zrunV (rest := [.int (m6 (1, w, 0) 10), .ref (ad (1, w, 0))]) C hml hl.1 hw (zn4 hL gw (by omega)) rfl rfl (c_X0_loseSlime l D cy ad m6 H.size hL gw gb) zv_X5_126 rfl rfl rfl ⟨Nat.le_of_ble_eq_true rfl, Nat.le_of_ble_eq_true rfl⟩ rfl (Nat.le_of_ble_eq_true rfl) dX5_workBox_34 ⟨Nat.zero_le _, Nat.zero_le _⟩) (fun r10 m9 H locs h8 hw => ?_)
  obtain ⟨er10, em9⟩ := h8
  refine lv_iadd hx hb dX5_workBox_37 ?_
  refine zp_X5_72 C hw (zn1 hL gw) dX5_workBox_38 (fun H locs m11 em11 hw => ?_)
  have h2c : m11 (4, w, b) 4 = nI cn := by rw [em11, zs_k (zk rfl), em9, q_slimeM, zs_k (zk rfl), em6, q_blow_4 (by decide)]; exact h1c
  have h2cu : m11 (4, w, b) 6 = nI ub := by rw [em11, zs_k (zk rfl), em9, q_slimeM, zs_k (zk rfl), em6, q_blow_4 (by decide)]; exact h1cu
  refine lv_aload_n hx hb dX5_workBox_41 rfl (lv_at hl 1 rfl) ?_
  refine lv_aload_n hx hb dX5_workBox_42 rfl (lv_at hl 0 rfl) ?_
  refine zg_X5_31 C hw (zn1 hL gw) dX5_workBox_43 ?_
  refine lv_aload_n hx hb dX5_workBox_46 rfl (lv_at hl 1 rfl) ?_
  refine zg_X5_129 C hw (zn4 hL gw (by omega)) dX5_workBox_47 ?_
  refine ztop h2cu ?_
  refine lv_iconst (v := 3) hx hb dX5_workBox_50 (by decide) ?_
  refine zafter_i C hw (zrunS (rest := [.ref (ad (11, w, 0)), .ref (ad (4, w, b))]) C hml hl.1 hw (c_J9_floorMod_7cf53 l D cy ad m11 H.size (nI ub) 3 (by decide)) zv_X5_103 rfl rfl rfl ⟨Nat.le_of_ble_eq_true rfl, Nat.le_of_ble_eq_true rfl⟩ rfl (Nat.le_of_ble_eq_true rfl) dX5_workBox_51 ⟨Nat.zero_le _, Nat.zero_le _⟩) (fun r14 m13 H locs h12 hw => ?_)
  obtain ⟨er14, h12⟩ := h12
  rw [h12] at hw
  clear h12 m13
  refine ztop (er14.trans (q_fmodN (a := ub) (d := 3) (by omega) (by decide) (by decide))) ?_
  refine zald_11N C hw (zn11 hL gw) (ub % 3) (Nat.mod_lt _ (by decide)) rfl dX5_workBox_54 ?_
  refine lv_iload_n hx hb dX5_workBox_55 rfl (lv_at hl 2 rfl) ?_
  refine zafter_v C hw (zrunV (rest := []) C hml hl.1 hw (zn4 hL gw (by omega)) rfl rfl (c_X0_grate l D cy ad m11 H.size hL gw gb gw (by omega) x) zv_X5_132 rfl rfl rfl ⟨Nat.le_of_ble_eq_true rfl, Nat.le_of_ble_eq_true rfl⟩ rfl (Nat.le_of_ble_eq_true rfl) dX5_workBox_56 ⟨Nat.zero_le _, Nat.zero_le _⟩) (fun m16 H locs h15 hw => ?_)
  have em16 := h15
  have h3c : m16 (4, w, b) 4 = nI cn := by rw [em16, q_grate, q_move_k (zk rfl) (zk rfl)]; exact h2c
  have h3cu : m16 (4, w, b) 6 = nI ub := by rw [em16, q_grate, q_move_k (zk rfl) (zk rfl)]; exact h2cu
  refine lv_aload_n hx hb dX5_workBox_59 rfl (lv_at hl 1 rfl) ?_
  refine lv_iload_n hx hb dX5_workBox_60 rfl (lv_at hl 3 rfl) ?_
  refine zafter_v C hw (zrunV (rest := []) C hml hl.1 hw (zn4 hL gw (by omega)) rfl rfl (c_X0_wearStamps l D cy ad m16 H.size hL gw gb h3c lc t) zv_X5_136 rfl rfl rfl ⟨Nat.le_of_ble_eq_true rfl, Nat.le_of_ble_eq_true rfl⟩ rfl (Nat.le_of_ble_eq_true rfl) dX5_workBox_61 ⟨Nat.zero_le _, Nat.zero_le _⟩) (fun m19 H locs h18 hw => ?_)
  have em19 := h18
  exact zret_v C hr hlocks hw dX5_workBox_64 (by first | rfl | (subst_vars; first | rfl))

set_option maxHeartbeats 4000000 in
set_option maxRecDepth 100000 in
theorem c_X5_passHour (l : Launch) (D : va_G) (cy : Nat → ClassId) (ad : ZN → Nat) (m : ZM) (sz : Nat) {L : List ZN} (hL : zL L) {w : Nat} (gw : w < 2) {bc : Nat} {sc bu : Nat → Nat} {hq : Nat} (G : gW m w bc sc bu hq) : Met l yX5_passHour (zws yX5_passHour cX5_passHour 4 (some .int)) ({ frames := 4, cells := 0, slots := 0, locals := 96 } : Room) (zPc D cy ad L m sz [.ref (ad (1, w, 0))]) (zQi (fun r m1 => r = q_hourT m w sc bc hq ∧ m1 = q_hourM m w bc sc bu hq) D cy ad L sz) 0 0 (zA ad L sz) := by
  refine zopen (Qc := fun sz => zQi (fun r m1 => r = q_hourT m w sc bc hq ∧ m1 = q_hourM m w bc sc bu hq) D cy ad L sz) RX5 (plainFor_of_name (by decide)) rfl (Nat.le_of_ble_eq_true rfl) ?_
  intro p e s mi below meth c ls C hr hlocks hml hl H locs hw
  obtain ⟨hx, hb, hts, hown, hK, hNw⟩ := id C
  have hl : lv_has ls 4 [(0, .ref (ad (1, w, 0)))] := hl
  obtain ⟨hbc, lbc, hbx, ⟨f, hf, lf⟩, hhr, lhr⟩ := id G
  refine lv_aload_n hx hb dX5_passHour_0 rfl (lv_at hl 0 rfl) ?_
  refine zafter_i C hw (zrunV (rest := []) C hml hl.1 hw (zn1 hL gw) rfl rfl (c_X5_takeWater l D cy ad m H.size hL gw G) zv_X5_90 rfl rfl rfl ⟨Nat.le_of_ble_eq_true rfl, Nat.le_of_ble_eq_true rfl⟩ rfl (Nat.le_of_ble_eq_true rfl) dX5_passHour_1 ⟨Nat.zero_le _, Nat.zero_le _⟩) (fun r3 m2 H locs h1 hw => ?_)
  obtain ⟨er3, em2⟩ := h1
  have G1 : gW m2 w bc sc bu hq := by rw [em2]; exact gW_take G
  refine lv_istore_n (lv' := [(1, .int r3), (0, .ref (ad (1, w, 0)))]) hx hb dX5_passHour_4 rfl hl (by decide) rfl (fun ls hl => ?_)
  refine lv_iload_n hx hb dX5_passHour_5 rfl (lv_at hl 0 rfl) ?_
  refine lv_bipush (v := 10) hx hb dX5_passHour_6 (by decide) ?_
  refine lv_imul hx hb dX5_passHour_8 ?_
  refine lv_iconst (v := 1) hx hb dX5_passHour_9 (by decide) ?_
  refine lv_aload_n hx hb dX5_passHour_10 rfl (lv_at hl 1 rfl) ?_
  refine zafter_i C hw (zrunV (rest := [.int 1, .int (r3 * 10)]) C hml hl.1 hw (zn1 hL gw) rfl rfl (c_X5_loadOfWheel l D cy ad m2 H.size hL gw G1) zv_X5_63 rfl rfl rfl ⟨Nat.le_of_ble_eq_true rfl, Nat.le_of_ble_eq_true rfl⟩ rfl (Nat.le_of_ble_eq_true rfl) dX5_passHour_11 ⟨Nat.zero_le _, Nat.zero_le _⟩) (fun r6 m5 H locs h4 hw => ?_)
  obtain ⟨er6, h4⟩ := h4
  rw [h4] at hw
  clear h4 m5
  refine va_mmax hx hb (hml.trans hl.1.symm) hown (hts _ zL_X5_93) (hts _ zT_max) (hts _ zN_Math) (hts _ zO_max) (Nat.le_of_ble_eq_true rfl) (Nat.le_of_ble_eq_true rfl) (Nat.zero_le _) (Nat.zero_le _) dX5_passHour_14 ?_
  refine lv_idiv hx hb dX5_passHour_17 q_max1_ne ?_
  refine lv_topi (fun x7 ex7 => ?_)
  refine lv_istore_n (lv' := [(2, .int x7), (1, .int r3), (0, .ref (ad (1, w, 0)))]) hx hb dX5_passHour_18 rfl hl (by decide) rfl (fun ls hl => ?_)
  refine lv_iconst (v := 0) hx hb dX5_passHour_19 (by decide) ?_
  refine lv_istore_n (lv' := [(3, .int 0), (2, .int x7), (1, .int r3), (0, .ref (ad (1, w, 0)))]) hx hb dX5_passHour_20 rfl hl (by decide) rfl (fun ls hl => ?_)
  have loop21 : ∀ (z : Nat) (k : Nat) (m0 : ZM) (H : Heap) (locs : List Loc) (ls : Array Slot), bc - k = z → (k ≤ bc) → (m0 = q_boxes m2 w sc bu r3 x7 k) → zH D cy ad L s.heap H locs m0 → lv_has ls 4 [(0, .ref (ad (1, w, 0))), (1, .int r3), (2, .int x7), (3, .int (nI k))] → W p l e ({ frames := 4, cells := 0, slots := 0, locals := 96 } : Room) s mi [.ref (ad (1, w, 0))].toArray below meth c H locs 0 0 (MQ below (zQi (fun r m1 => r = q_hourT m w sc bc hq ∧ m1 = q_hourM m w bc sc bu hq) D cy ad L s.heap.size) [.ref (ad (1, w, 0))].toArray s 0 0 (zA ad L s.heap.size)) (F0 mi 21 ls []) := by
    intro z
    induction z using Nat.strongRecOn with
    | _ z ih21 =>
    intro k m0 H locs ls hz21 i21_1 i21_2 hw hl
    have G0 : gW m0 w bc sc bu hq := by rw [i21_2]; exact gW_boxes G1 (by omega)
    obtain ⟨hbc0, lbc0, hbx0, ⟨f0, hf0, lf0⟩, hhr0, lhr0⟩ := id G0
    refine lv_iload_n hx hb dX5_passHour_21 rfl (lv_at hl 3 rfl) ?_
    refine lv_aload_n hx hb dX5_passHour_22 rfl (lv_at hl 0 rfl) ?_
    refine zg_X5_53 C hw (zn1 hL gw) dX5_passHour_23 ?_
    refine ztop hbc0 ?_
    refine lv_icmp_ge (tgt := 47) hx hb dX5_passHour_26 (by decide) (fun c26_8 => ?_) (fun c26_8 => ?_)
    · skip
      have n9 := zle c26_8 (a := bc) (b := k) rfl rfl (by omega) (by omega)
      refine lv_aload_n hx hb dX5_passHour_47 rfl (lv_at hl 0 rfl) ?_
      refine lv_dup hx hb dX5_passHour_48 rfl ?_
      refine zg_X5_50 C hw (zn1 hL gw) dX5_passHour_49 ?_
      refine lv_iconst (v := 1) hx hb dX5_passHour_52 (by decide) ?_
      refine lv_iadd hx hb dX5_passHour_53 ?_
      refine zp_X5_50 C hw (zn1 hL gw) dX5_passHour_54 (fun H locs m10 em10 hw => ?_)
      refine lv_iload_n hx hb dX5_passHour_57 rfl (lv_at hl 2 rfl) ?_
      exact zret_i C hr hlocks hw dX5_passHour_58 (by obtain rfl : k = bc := (by omega); exact ⟨by subst_vars; rfl, by subst_vars; rfl⟩)
    · skip
      have n11 := znle c26_8 (a := bc) (b := k) rfl rfl (by omega) (by omega)
      refine lv_aload_n hx hb dX5_passHour_29 rfl (lv_at hl 0 rfl) ?_
      refine lv_aload_n hx hb dX5_passHour_30 rfl (lv_at hl 0 rfl) ?_
      refine zg_X5_17 C hw (zn1 hL gw) dX5_passHour_31 ?_
      refine lv_iload_n hx hb dX5_passHour_34 rfl (lv_at hl 3 rfl) ?_
      refine zald_3N C hw (zn3 hL gw) k (by omega) rfl dX5_passHour_35 ?_
      refine lv_iload_n hx hb dX5_passHour_36 rfl (lv_at hl 1 rfl) ?_
      refine lv_iload_n hx hb dX5_passHour_37 rfl (lv_at hl 2 rfl) ?_
      refine zafter_v C hw (zrunV (rest := []) C hml hl.1 hw (zn1 hL gw) rfl rfl (c_X5_workBox l D cy ad m0 H.size hL gw (by omega) (hbx0 k (by omega)).1 (hbx0 k (by omega)).2.1 (hbx0 k (by omega)).2.2.1 (hbx0 k (by omega)).2.2.2 hf0 lf0 r3 x7) zv_X5_99 rfl rfl rfl ⟨Nat.le_of_ble_eq_true rfl, Nat.le_of_ble_eq_true rfl⟩ rfl (Nat.le_of_ble_eq_true rfl) dX5_passHour_38 ⟨Nat.zero_le _, Nat.zero_le _⟩) (fun m13 H locs h12 hw => ?_)
      have em13 := h12
      refine lv_iinc (v := (nI (k + 1))) (lv' := [(3, .int (nI (k + 1))), (0, .ref (ad (1, w, 0))), (1, .int r3), (2, .int x7)]) hx hb dX5_passHour_41 hl (k := 3) rfl (nI_1 k) (by decide) rfl (fun ls hl => ?_)
      refine lv_goto (tgt := 21) hx hb dX5_passHour_44 (by decide) ?_
      exact ih21 _ (by omega) (k + 1) m13 _ _ _ rfl (by omega) (by rw [em13, i21_2]; rfl) hw (lv_sub hl [1, 2, 3, 0] rfl)
  exact loop21 _ 0 m2 _ _ _ rfl (Nat.zero_le _) rfl hw (lv_sub hl [3, 2, 1, 0] rfl)

set_option maxHeartbeats 4000000 in
set_option maxRecDepth 100000 in
theorem c_X5_passHours (l : Launch) (D : va_G) (cy : Nat → ClassId) (ad : ZN → Nat) (m : ZM) (sz : Nat) {L : List ZN} (hL : zL L) {w : Nat} (gw : w < 2) {bc : Nat} {sc bu : Nat → Nat} {hq : Nat} (G : gW m w bc sc bu hq) (n : Nat) (ln : n ≤ 100) (lq : hq + n < 2 ^ 30) : Met l yX5_passHours (zws yX5_passHours cX5_passHours 4 (some .int)) ({ frames := 5, cells := 0, slots := 0, locals := 119 } : Room) (zPc D cy ad L m sz [.ref (ad (1, w, 0)), .int (nI n)]) (zQi (fun r m1 => r = q_passT m w bc sc bu hq n ∧ m1 = q_passM m w bc sc bu hq n) D cy ad L sz) 0 0 (zA ad L sz) := by
  refine zopen (Qc := fun sz => zQi (fun r m1 => r = q_passT m w bc sc bu hq n ∧ m1 = q_passM m w bc sc bu hq n) D cy ad L sz) RX5 (plainFor_of_name (by decide)) rfl (Nat.le_of_ble_eq_true rfl) ?_
  intro p e s mi below meth c ls C hr hlocks hml hl H locs hw
  obtain ⟨hx, hb, hts, hown, hK, hNw⟩ := id C
  have hl : lv_has ls 4 [(0, .ref (ad (1, w, 0))), (1, .int (nI n))] := hl
  obtain ⟨hbc, lbc, hbx, ⟨f, hf, lf⟩, hhr, lhr⟩ := id G
  refine lv_iconst (v := 0) hx hb dX5_passHours_0 (by decide) ?_
  refine lv_istore_n (lv' := [(2, .int 0), (0, .ref (ad (1, w, 0))), (1, .int (nI n))]) hx hb dX5_passHours_1 rfl hl (by decide) rfl (fun ls hl => ?_)
  refine lv_iconst (v := 0) hx hb dX5_passHours_2 (by decide) ?_
  refine lv_istore_n (lv' := [(3, .int 0), (2, .int 0), (0, .ref (ad (1, w, 0))), (1, .int (nI n))]) hx hb dX5_passHours_3 rfl hl (by decide) rfl (fun ls hl => ?_)
  have loop4 : ∀ (z : Nat) (k : Nat) (x : Int32) (m0 : ZM) (H : Heap) (locs : List Loc) (ls : Array Slot), n - k = z → (k ≤ n) → (m0 = q_passM m w bc sc bu hq k) → (x = q_passT m w bc sc bu hq k) → zH D cy ad L s.heap H locs m0 → lv_has ls 4 [(0, .ref (ad (1, w, 0))), (1, .int (nI n)), (2, .int x), (3, .int (nI k))] → W p l e ({ frames := 5, cells := 0, slots := 0, locals := 119 } : Room) s mi [.ref (ad (1, w, 0)), .int (nI n)].toArray below meth c H locs 0 0 (MQ below (zQi (fun r m1 => r = q_passT m w bc sc bu hq n ∧ m1 = q_passM m w bc sc bu hq n) D cy ad L s.heap.size) [.ref (ad (1, w, 0)), .int (nI n)].toArray s 0 0 (zA ad L s.heap.size)) (F0 mi 4 ls []) := by
    intro z
    induction z using Nat.strongRecOn with
    | _ z ih4 =>
    intro k x m0 H locs ls hz4 i4_1 i4_2 i4_3 hw hl
    have G0 : gW m0 w bc sc bu (hq + k) := by rw [i4_2]; exact gW_pass G (by omega)
    refine lv_iload_n hx hb dX5_passHours_4 rfl (lv_at hl 3 rfl) ?_
    refine lv_iload_n hx hb dX5_passHours_5 rfl (lv_at hl 1 rfl) ?_
    refine lv_icmp_ge (tgt := 22) hx hb dX5_passHours_6 (by decide) (fun c6_1 => ?_) (fun c6_1 => ?_)
    · skip
      have n2 := zle c6_1 (a := n) (b := k) rfl rfl (by omega) (by omega)
      refine lv_iload_n hx hb dX5_passHours_22 rfl (lv_at hl 2 rfl) ?_
      exact zret_i C hr hlocks hw dX5_passHours_23 ⟨by rw [i4_3, show k = n by omega], by rw [i4_2, show k = n by omega]⟩
    · skip
      have n3 := znle c6_1 (a := n) (b := k) rfl rfl (by omega) (by omega)
      refine lv_iload_n hx hb dX5_passHours_9 rfl (lv_at hl 2 rfl) ?_
      refine lv_aload_n hx hb dX5_passHours_10 rfl (lv_at hl 0 rfl) ?_
      refine zafter_i C hw (zrunV (rest := [.int x]) C hml hl.1 hw (zn1 hL gw) rfl rfl (c_X5_passHour l D cy ad m0 H.size hL gw G0) zv_X5_87 rfl rfl rfl ⟨Nat.le_of_ble_eq_true rfl, Nat.le_of_ble_eq_true rfl⟩ rfl (Nat.le_of_ble_eq_true rfl) dX5_passHours_11 ⟨Nat.zero_le _, Nat.zero_le _⟩) (fun r6 m5 H locs h4 hw => ?_)
      obtain ⟨er6, em5⟩ := h4
      refine lv_iadd hx hb dX5_passHours_14 ?_
      refine lv_topi (fun x7 ex7 => ?_)
      refine lv_istore_n (lv' := [(2, .int x7), (0, .ref (ad (1, w, 0))), (1, .int (nI n)), (3, .int (nI k))]) hx hb dX5_passHours_15 rfl hl (by decide) rfl (fun ls hl => ?_)
      refine lv_iinc (v := (nI (k + 1))) (lv' := [(3, .int (nI (k + 1))), (2, .int x7), (0, .ref (ad (1, w, 0))), (1, .int (nI n))]) hx hb dX5_passHours_16 hl (k := 3) rfl (nI_1 k) (by decide) rfl (fun ls hl => ?_)
      refine lv_goto (tgt := 4) hx hb dX5_passHours_19 (by decide) ?_
      exact ih4 _ (by omega) (k + 1) x7 m5 _ _ _ rfl (by omega) (by rw [em5, i4_2]; rfl) (by rw [ex7, er6, i4_2, i4_3]; rfl) hw (lv_sub hl [2, 3, 1, 0] rfl)
  exact loop4 _ 0 0 m _ _ _ rfl (Nat.zero_le _) rfl rfl hw (lv_sub hl [2, 3, 1, 0] rfl)

set_option maxHeartbeats 4000000 in
set_option maxRecDepth 100000 in
theorem c_X5_partByWater (l : Launch) (D : va_G) (cy : Nat → ClassId) (ad : ZN → Nat) (m : ZM) (sz : Nat) {L : List ZN} (hL : zL L) {w o : Nat} (gw : w < 2) (go : o < 47) {f hn : Nat} (hf : m (8, w, 0) 1 = nI f) (lf : f < 30) (hc : m (8, w, 0) 2 = nI hn) (lc : hn ≤ 30) (x : Int32) : Met l yX5_partByWater (zws yX5_partByWater cX5_partByWater 9 (some .int)) ({ frames := 3, cells := 0, slots := 0, locals := 67 } : Room) (zPc D cy ad L m sz [.ref (ad (1, w, 0)), .ref (ad (7, w, o)), .int x]) (zQi (fun r m1 => r = q_tinOfHead (m (7, w, o) 1) x ∧ m1 = q_part m w o f hn x) D cy ad L sz) 0 0 (zA ad L sz) := by
  refine zopen (Qc := fun sz => zQi (fun r m1 => r = q_tinOfHead (m (7, w, o) 1) x ∧ m1 = q_part m w o f hn x) D cy ad L sz) RX5 (plainFor_of_name (by decide)) rfl (Nat.le_of_ble_eq_true rfl) ?_
  intro p e s mi below meth c ls C hr hlocks hml hl H locs hw
  obtain ⟨hx, hb, hts, hown, hK, hNw⟩ := id C
  have hl : lv_has ls 9 [(0, .ref (ad (1, w, 0))), (1, .ref (ad (7, w, o))), (2, .int x)] := hl
  refine lv_aload_n hx hb dX5_partByWater_0 rfl (lv_at hl 1 rfl) ?_
  refine zg_X5_66 C hw (zn7 hL gw (by omega)) dX5_partByWater_1 ?_
  refine lv_iload_n hx hb dX5_partByWater_4 rfl (lv_at hl 2 rfl) ?_
  refine zafter_i C hw (zrunSN (rest := []) C hml hl.1 hw (c_X6_rockOfHead l D cy ad m H.size (m (7, w, o) 0) x) zv_X5_139 rfl rfl rfl ⟨Nat.le_of_ble_eq_true rfl, Nat.le_of_ble_eq_true rfl⟩ rfl (Nat.le_of_ble_eq_true rfl) dX5_partByWater_5 ⟨Nat.zero_le _, Nat.zero_le _⟩) (fun r3 m2 H locs h1 hw => ?_)
  obtain ⟨er3, h1⟩ := h1
  rw [h1] at hw
  clear h1 m2
  refine lv_istore_n (lv' := [(3, .int r3), (0, .ref (ad (1, w, 0))), (1, .ref (ad (7, w, o))), (2, .int x)]) hx hb dX5_partByWater_8 rfl hl (by decide) rfl (fun ls hl => ?_)
  refine lv_aload_n hx hb dX5_partByWater_9 rfl (lv_at hl 2 rfl) ?_
  refine zg_X5_69 C hw (zn7 hL gw (by omega)) dX5_partByWater_10 ?_
  refine lv_iload_n hx hb dX5_partByWater_13 rfl (lv_at hl 3 rfl) ?_
  refine zafter_i C hw (zrunSN (rest := []) C hml hl.1 hw (c_X6_tinOfHead l D cy ad m H.size (m (7, w, o) 1) x) zv_X5_142 rfl rfl rfl ⟨Nat.le_of_ble_eq_true rfl, Nat.le_of_ble_eq_true rfl⟩ rfl (Nat.le_of_ble_eq_true rfl) dX5_partByWater_14 ⟨Nat.zero_le _, Nat.zero_le _⟩) (fun r6 m5 H locs h4 hw => ?_)
  obtain ⟨er6, h4⟩ := h4
  rw [h4] at hw
  clear h4 m5
  refine lv_istore (lv' := [(4, .int r6), (3, .int r3), (0, .ref (ad (1, w, 0))), (1, .ref (ad (7, w, o))), (2, .int x)]) hx hb dX5_partByWater_17 hl (by decide) rfl (fun ls hl => ?_)
  refine lv_aload_n hx hb dX5_partByWater_19 rfl (lv_at hl 3 rfl) ?_
  refine zg_X5_66 C hw (zn7 hL gw (by omega)) dX5_partByWater_20 ?_
  refine lv_iload_n hx hb dX5_partByWater_23 rfl (lv_at hl 1 rfl) ?_
  refine lv_isub hx hb dX5_partByWater_24 ?_
  refine lv_topi (fun x7 ex7 => ?_)
  refine lv_istore (lv' := [(5, .int x7), (4, .int r6), (3, .int r3), (0, .ref (ad (1, w, 0))), (1, .ref (ad (7, w, o))), (2, .int x)]) hx hb dX5_partByWater_25 hl (by decide) rfl (fun ls hl => ?_)
  refine lv_aload_n hx hb dX5_partByWater_27 rfl (lv_at hl 4 rfl) ?_
  refine zg_X5_69 C hw (zn7 hL gw (by omega)) dX5_partByWater_28 ?_
  refine lv_iload hx hb dX5_partByWater_31 (lv_at hl 1 rfl) ?_
  refine lv_isub hx hb dX5_partByWater_33 ?_
  refine lv_topi (fun x8 ex8 => ?_)
  refine lv_istore (lv' := [(6, .int x8), (5, .int x7), (4, .int r6), (3, .int r3), (0, .ref (ad (1, w, 0))), (1, .ref (ad (7, w, o))), (2, .int x)]) hx hb dX5_partByWater_34 hl (by decide) rfl (fun ls hl => ?_)
  refine lv_iload hx hb dX5_partByWater_36 (lv_at hl 1 rfl) ?_
  refine lv_iconst (v := 2) hx hb dX5_partByWater_38 (by decide) ?_
  refine lv_idiv hx hb dX5_partByWater_39 (by decide) ?_
  refine lv_topi (fun x9 ex9 => ?_)
  refine lv_istore (lv' := [(7, .int x9), (6, .int x8), (5, .int x7), (4, .int r6), (3, .int r3), (0, .ref (ad (1, w, 0))), (1, .ref (ad (7, w, o))), (2, .int x)]) hx hb dX5_partByWater_40 hl (by decide) rfl (fun ls hl => ?_)
  refine lv_iload hx hb dX5_partByWater_42 (lv_at hl 1 rfl) ?_
  refine lv_iconst (v := 2) hx hb dX5_partByWater_44 (by decide) ?_
  refine lv_idiv hx hb dX5_partByWater_45 (by decide) ?_
  refine lv_topi (fun x10 ex10 => ?_)
  refine lv_istore (lv' := [(8, .int x10), (7, .int x9), (6, .int x8), (5, .int x7), (4, .int r6), (3, .int r3), (0, .ref (ad (1, w, 0))), (1, .ref (ad (7, w, o))), (2, .int x)]) hx hb dX5_partByWater_46 hl (by decide) rfl (fun ls hl => ?_)
  refine lv_aload_n hx hb dX5_partByWater_48 rfl (lv_at hl 6 rfl) ?_
  refine zg_X5_36 C hw (zn1 hL gw) dX5_partByWater_49 ?_
  refine lv_iload_n hx hb dX5_partByWater_52 rfl (lv_at hl 5 rfl) ?_
  refine lv_iload hx hb dX5_partByWater_53 (lv_at hl 4 rfl) ?_
  refine zafter_v C hw (zrunV (rest := []) C hml hl.1 hw (zn7 hL gw (by omega)) rfl rfl (c_X3_put l D cy ad m H.size hL gw (by omega) r3 r6) zv_X5_145 rfl rfl rfl ⟨Nat.le_of_ble_eq_true rfl, Nat.le_of_ble_eq_true rfl⟩ rfl (Nat.le_of_ble_eq_true rfl) dX5_partByWater_55 ⟨Nat.zero_le _, Nat.zero_le _⟩) (fun m12 H locs h11 hw => ?_)
  have em12 := h11
  refine lv_iload hx hb dX5_partByWater_58 (lv_at hl 1 rfl) ?_
  refine lv_iload hx hb dX5_partByWater_60 (lv_at hl 0 rfl) ?_
  refine lv_iadd hx hb dX5_partByWater_62 ?_
  refine lv_if_le (tgt := 78) hx hb dX5_partByWater_63 (by decide) (fun c63_14 => ?_) (fun c63_14 => ?_)
  · skip
    refine lv_aload_n hx hb dX5_partByWater_78 rfl (lv_at hl 6 rfl) ?_
    refine zg_X5_40 C hw (zn1 hL gw) dX5_partByWater_79 ?_
    refine lv_iload hx hb dX5_partByWater_82 (lv_at hl 3 rfl) ?_
    refine lv_iload hx hb dX5_partByWater_84 (lv_at hl 1 rfl) ?_
    refine lv_isub hx hb dX5_partByWater_86 ?_
    refine lv_iload hx hb dX5_partByWater_87 (lv_at hl 2 rfl) ?_
    refine lv_iload hx hb dX5_partByWater_89 (lv_at hl 0 rfl) ?_
    refine lv_isub hx hb dX5_partByWater_91 ?_
    refine zafter_v C hw (zrunV (rest := []) C hml hl.1 hw (zn7 hL gw (by omega)) rfl rfl (c_X3_put l D cy ad m12 H.size hL gw (by omega) (x7 - x9) (x8 - x10)) zv_X5_145 rfl rfl rfl ⟨Nat.le_of_ble_eq_true rfl, Nat.le_of_ble_eq_true rfl⟩ rfl (Nat.le_of_ble_eq_true rfl) dX5_partByWater_92 ⟨Nat.zero_le _, Nat.zero_le _⟩) (fun m16 H locs h15 hw => ?_)
    have em16 := h15
    refine lv_aload_n hx hb dX5_partByWater_95 rfl (lv_at hl 7 rfl) ?_
    refine lv_iconst (v := 0) hx hb dX5_partByWater_96 (by decide) ?_
    refine lv_iconst (v := 0) hx hb dX5_partByWater_97 (by decide) ?_
    refine zafter_v C hw (zrunV (rest := []) C hml hl.1 hw (zn7 hL gw (by omega)) rfl rfl (c_X3_become l D cy ad m16 H.size hL gw go 0 0) zv_X5_153 rfl rfl rfl ⟨Nat.le_of_ble_eq_true rfl, Nat.le_of_ble_eq_true rfl⟩ rfl (Nat.le_of_ble_eq_true rfl) dX5_partByWater_98 ⟨Nat.zero_le _, Nat.zero_le _⟩) (fun m19 H locs h18 hw => ?_)
    have em19 := h18
    refine lv_iload hx hb dX5_partByWater_101 (lv_at hl 4 rfl) ?_
    exact zret_i C hr hlocks hw dX5_partByWater_103 ⟨by subst_vars; rfl, by subst_vars; exact q_part_a c63_14⟩
  · skip
    have h1 : m12 (8, w, 0) 1 = nI f := by rw [em12, q_put_k (zk rfl)]; exact hf
    have h2 : m12 (8, w, 0) 2 = nI hn := by rw [em12, q_put_k (zk rfl)]; exact hc
    refine lv_aload_n hx hb dX5_partByWater_66 rfl (lv_at hl 6 rfl) ?_
    refine zg_X5_25 C hw (zn1 hL gw) dX5_partByWater_67 ?_
    refine lv_iload hx hb dX5_partByWater_70 (lv_at hl 1 rfl) ?_
    refine lv_iload hx hb dX5_partByWater_72 (lv_at hl 0 rfl) ?_
    refine lv_iconst (v := 1) hx hb dX5_partByWater_74 (by decide) ?_
    refine zafter_v C hw (zrunV (rest := []) C hml hl.1 hw (zn8 hL gw) rfl rfl (c_X1_addLot l D cy ad m12 H.size hL gw h1 lf h2 lc x9 x10 1) zv_X5_149 rfl rfl rfl ⟨Nat.le_of_ble_eq_true rfl, Nat.le_of_ble_eq_true rfl⟩ rfl (Nat.le_of_ble_eq_true rfl) dX5_partByWater_75 ⟨Nat.zero_le _, Nat.zero_le _⟩) (fun m22 H locs h21 hw => ?_)
    have em22 := h21
    refine lv_aload_n hx hb dX5_partByWater_78 rfl (lv_at hl 6 rfl) ?_
    refine zg_X5_40 C hw (zn1 hL gw) dX5_partByWater_79 ?_
    refine lv_iload hx hb dX5_partByWater_82 (lv_at hl 3 rfl) ?_
    refine lv_iload hx hb dX5_partByWater_84 (lv_at hl 1 rfl) ?_
    refine lv_isub hx hb dX5_partByWater_86 ?_
    refine lv_iload hx hb dX5_partByWater_87 (lv_at hl 2 rfl) ?_
    refine lv_iload hx hb dX5_partByWater_89 (lv_at hl 0 rfl) ?_
    refine lv_isub hx hb dX5_partByWater_91 ?_
    refine zafter_v C hw (zrunV (rest := []) C hml hl.1 hw (zn7 hL gw (by omega)) rfl rfl (c_X3_put l D cy ad m22 H.size hL gw (by omega) (x7 - x9) (x8 - x10)) zv_X5_145 rfl rfl rfl ⟨Nat.le_of_ble_eq_true rfl, Nat.le_of_ble_eq_true rfl⟩ rfl (Nat.le_of_ble_eq_true rfl) dX5_partByWater_92 ⟨Nat.zero_le _, Nat.zero_le _⟩) (fun m25 H locs h24 hw => ?_)
    have em25 := h24
    refine lv_aload_n hx hb dX5_partByWater_95 rfl (lv_at hl 7 rfl) ?_
    refine lv_iconst (v := 0) hx hb dX5_partByWater_96 (by decide) ?_
    refine lv_iconst (v := 0) hx hb dX5_partByWater_97 (by decide) ?_
    refine zafter_v C hw (zrunV (rest := []) C hml hl.1 hw (zn7 hL gw (by omega)) rfl rfl (c_X3_become l D cy ad m25 H.size hL gw go 0 0) zv_X5_153 rfl rfl rfl ⟨Nat.le_of_ble_eq_true rfl, Nat.le_of_ble_eq_true rfl⟩ rfl (Nat.le_of_ble_eq_true rfl) dX5_partByWater_98 ⟨Nat.zero_le _, Nat.zero_le _⟩) (fun m28 H locs h27 hw => ?_)
    have em28 := h27
    refine lv_iload hx hb dX5_partByWater_101 (lv_at hl 4 rfl) ?_
    exact zret_i C hr hlocks hw dX5_partByWater_103 ⟨by subst_vars; rfl, by subst_vars; exact q_part_b c63_14⟩

set_option maxHeartbeats 4000000 in
set_option maxRecDepth 100000 in
theorem c_X5_smeltFromStore (l : Launch) (D : va_G) (cy : Nat → ClassId) (ad : ZN → Nat) (m : ZM) (sz : Nat) {L : List ZN} (hL : zL L) {w : Nat} (gw : w < 2) (x : Int32) : Met l yX5_smeltFromStore (zws yX5_smeltFromStore cX5_smeltFromStore 5 (some .int)) ({ frames := 2, cells := 0, slots := 0, locals := 43 } : Room) (zPc D cy ad L m sz [.ref (ad (1, w, 0)), .int x]) (zQi (fun r m1 => r = q_smeltR m w x ∧ m1 = q_smeltM m w x) D cy ad L sz) 0 0 (zA ad L sz) := by
  refine zopen (Qc := fun sz => zQi (fun r m1 => r = q_smeltR m w x ∧ m1 = q_smeltM m w x) D cy ad L sz) RX5 (plainFor_of_name (by decide)) rfl (Nat.le_of_ble_eq_true rfl) ?_
  intro p e s mi below meth c ls C hr hlocks hml hl H locs hw
  obtain ⟨hx, hb, hts, hown, hK, hNw⟩ := id C
  have hl : lv_has ls 5 [(0, .ref (ad (1, w, 0))), (1, .int x)] := hl
  refine lv_aload_n hx hb dX5_smeltFromStore_0 rfl (lv_at hl 0 rfl) ?_
  refine zg_X5_36 C hw (zn1 hL gw) dX5_smeltFromStore_1 ?_
  refine zg_X5_69 C hw (zn7 hL gw (by omega)) dX5_smeltFromStore_4 ?_
  refine lv_iload_n hx hb dX5_smeltFromStore_7 rfl (lv_at hl 1 rfl) ?_
  refine lv_aload_n hx hb dX5_smeltFromStore_8 rfl (lv_at hl 0 rfl) ?_
  refine zg_X5_36 C hw (zn1 hL gw) dX5_smeltFromStore_9 ?_
  refine zafter_i C hw (zrunV (rest := [.int x, .int (m (7, w, 45) 1)]) C hml hl.1 hw (zn7 hL gw (by omega)) rfl rfl (c_X3_whole l D cy ad m H.size hL gw (by omega)) zv_X5_156 rfl rfl rfl ⟨Nat.le_of_ble_eq_true rfl, Nat.le_of_ble_eq_true rfl⟩ rfl (Nat.le_of_ble_eq_true rfl) dX5_smeltFromStore_12 ⟨Nat.zero_le _, Nat.zero_le _⟩) (fun r3 m2 H locs h1 hw => ?_)
  obtain ⟨er3, h1⟩ := h1
  rw [h1] at hw
  clear h1 m2
  refine zafter_i C hw (zrunSN (rest := []) C hml hl.1 hw (c_X6_partOf l D cy ad m H.size (m (7, w, 45) 1) x r3) zv_X5_159 rfl rfl rfl ⟨Nat.le_of_ble_eq_true rfl, Nat.le_of_ble_eq_true rfl⟩ rfl (Nat.le_of_ble_eq_true rfl) dX5_smeltFromStore_15 ⟨Nat.zero_le _, Nat.zero_le _⟩) (fun r6 m5 H locs h4 hw => ?_)
  obtain ⟨er6, h4⟩ := h4
  rw [h4] at hw
  clear h4 m5
  refine lv_istore_n (lv' := [(2, .int r6), (0, .ref (ad (1, w, 0))), (1, .int x)]) hx hb dX5_smeltFromStore_18 rfl hl (by decide) rfl (fun ls hl => ?_)
  refine lv_iload_n hx hb dX5_smeltFromStore_19 rfl (lv_at hl 2 rfl) ?_
  refine lv_iload_n hx hb dX5_smeltFromStore_20 rfl (lv_at hl 0 rfl) ?_
  refine lv_isub hx hb dX5_smeltFromStore_21 ?_
  refine lv_topi (fun x7 ex7 => ?_)
  refine lv_istore_n (lv' := [(3, .int x7), (2, .int r6), (0, .ref (ad (1, w, 0))), (1, .int x)]) hx hb dX5_smeltFromStore_22 rfl hl (by decide) rfl (fun ls hl => ?_)
  refine lv_aload_n hx hb dX5_smeltFromStore_23 rfl (lv_at hl 2 rfl) ?_
  refine zg_X5_36 C hw (zn1 hL gw) dX5_smeltFromStore_24 ?_
  refine lv_iload_n hx hb dX5_smeltFromStore_27 rfl (lv_at hl 0 rfl) ?_
  refine lv_ineg hx hb dX5_smeltFromStore_28 ?_
  refine lv_iload_n hx hb dX5_smeltFromStore_29 rfl (lv_at hl 1 rfl) ?_
  refine lv_ineg hx hb dX5_smeltFromStore_30 ?_
  refine zafter_v C hw (zrunV (rest := []) C hml hl.1 hw (zn7 hL gw (by omega)) rfl rfl (c_X3_put l D cy ad m H.size hL gw (by omega) (-x7) (-r6)) zv_X5_145 rfl rfl rfl ⟨Nat.le_of_ble_eq_true rfl, Nat.le_of_ble_eq_true rfl⟩ rfl (Nat.le_of_ble_eq_true rfl) dX5_smeltFromStore_31 ⟨Nat.zero_le _, Nat.zero_le _⟩) (fun m9 H locs h8 hw => ?_)
  have em9 := h8
  refine lv_iload_n hx hb dX5_smeltFromStore_34 rfl (lv_at hl 0 rfl) ?_
  refine lv_iload_n hx hb dX5_smeltFromStore_35 rfl (lv_at hl 1 rfl) ?_
  refine zafter_i C hw (zrunSN (rest := []) C hml hl.1 hw (c_X6_gradeOf l D cy ad m9 H.size x7 r6) zv_X5_163 rfl rfl rfl ⟨Nat.le_of_ble_eq_true rfl, Nat.le_of_ble_eq_true rfl⟩ rfl (Nat.le_of_ble_eq_true rfl) dX5_smeltFromStore_36 ⟨Nat.zero_le _, Nat.zero_le _⟩) (fun r13 m12 H locs h11 hw => ?_)
  obtain ⟨er13, h11⟩ := h11
  rw [h11] at hw
  clear h11 m12
  refine lv_sipush (v := 400) hx hb dX5_smeltFromStore_39 (by decide) ?_
  refine lv_icmp_ge (tgt := 47) hx hb dX5_smeltFromStore_42 (by decide) (fun c42_14 => ?_) (fun c42_14 => ?_)
  · skip
    refine lv_iload_n hx hb dX5_smeltFromStore_47 rfl (lv_at hl 1 rfl) ?_
    refine lv_bipush (v := 9) hx hb dX5_smeltFromStore_48 (by decide) ?_
    refine lv_imul hx hb dX5_smeltFromStore_50 ?_
    refine lv_bipush (v := 10) hx hb dX5_smeltFromStore_51 (by decide) ?_
    refine lv_idiv hx hb dX5_smeltFromStore_53 (by decide) ?_
    refine lv_topi (fun x15 ex15 => ?_)
    refine lv_istore (lv' := [(4, .int x15), (3, .int x7), (2, .int r6), (0, .ref (ad (1, w, 0))), (1, .int x)]) hx hb dX5_smeltFromStore_54 hl (by decide) rfl (fun ls hl => ?_)
    refine lv_aload_n hx hb dX5_smeltFromStore_56 rfl (lv_at hl 3 rfl) ?_
    refine lv_dup hx hb dX5_smeltFromStore_57 rfl ?_
    refine zg_X5_75 C hw (zn1 hL gw) dX5_smeltFromStore_58 ?_
    refine lv_iload hx hb dX5_smeltFromStore_61 (lv_at hl 0 rfl) ?_
    refine lv_iadd hx hb dX5_smeltFromStore_63 ?_
    refine zp_X5_75 C hw (zn1 hL gw) dX5_smeltFromStore_64 (fun H locs m16 em16 hw => ?_)
    refine lv_iload hx hb dX5_smeltFromStore_67 (lv_at hl 0 rfl) ?_
    exact zret_i C hr hlocks hw dX5_smeltFromStore_69 ⟨by subst_vars; exact ((if_pos c42_14)).symm, by subst_vars; exact ((if_pos c42_14)).symm⟩
  · skip
    refine lv_iconst (v := 0) hx hb dX5_smeltFromStore_45 (by decide) ?_
    exact zret_i C hr hlocks hw dX5_smeltFromStore_46 ⟨by subst_vars; exact ((if_neg c42_14)).symm, by subst_vars; exact ((if_neg c42_14)).symm⟩

set_option maxHeartbeats 4000000 in
set_option maxRecDepth 100000 in
theorem c_X5_copyWorks (l : Launch) (D : va_G) (cy : Nat → ClassId) (ad : ZN → Nat) (m : ZM) (sz : Nat) {L : List ZN} (hL : zL L) {w v : Nat} (gw : w < 2) (gv : v < 2) (nwv : w ≠ v) {bc : Nat} {sc bu : Nat → Nat} {hq : Nat} (G : gW m v bc sc bu hq) {fq hn : Nat} (hfq : m (8, v, 0) 1 = nI fq) (lfq : fq < 30) (hhn : m (8, v, 0) 2 = nI hn) (lhn : hn ≤ 30) : Met l yX5_copyWorks (zws yX5_copyWorks cX5_copyWorks 3 none) ({ frames := 4, cells := 0, slots := 0, locals := 86 } : Room) (zPc D cy ad L m sz [.ref (ad (1, w, 0)), .ref (ad (1, v, 0))]) (zQv (fun m1 => m1 = q_copyWorks m w v bc sc fq hn) D cy ad L sz) 0 0 (zA ad L sz) := by
  refine zopen (Qc := fun sz => zQv (fun m1 => m1 = q_copyWorks m w v bc sc fq hn) D cy ad L sz) RX5 (plainFor_of_name (by decide)) rfl (Nat.le_of_ble_eq_true rfl) ?_
  intro p e s mi below meth c ls C hr hlocks hml hl H locs hw
  obtain ⟨hx, hb, hts, hown, hK, hNw⟩ := id C
  have hl : lv_has ls 3 [(0, .ref (ad (1, w, 0))), (1, .ref (ad (1, v, 0)))] := hl
  obtain ⟨hbc, lbc, hbx, -, hhr, lhr⟩ := id G
  refine lv_aload_n hx hb dX5_copyWorks_0 rfl (lv_at hl 1 rfl) ?_
  refine zg_X5_9 C hw (zn1 hL gv) dX5_copyWorks_1 ?_
  refine lv_iconst (v := 0) hx hb dX5_copyWorks_4 (by decide) ?_
  refine lv_aload_n hx hb dX5_copyWorks_5 rfl (lv_at hl 0 rfl) ?_
  refine zg_X5_9 C hw (zn1 hL gw) dX5_copyWorks_6 ?_
  refine lv_iconst (v := 0) hx hb dX5_copyWorks_9 (by decide) ?_
  refine lv_bipush (v := 24) hx hb dX5_copyWorks_10 (by decide) ?_
  refine zcopy C (hml.trans hl.1.symm) hw zL_X5_166 zX_nat zX_stat zX_ini (zn2 hL gv) (zn2 hL gw) rfl (by decide) (Nat.le_of_ble_eq_true rfl) (Nat.le_of_ble_eq_true rfl) dX5_copyWorks_12 (fun H locs m1 em1 hw => ?_)
  refine lv_aload_n hx hb dX5_copyWorks_15 rfl (lv_at hl 0 rfl) ?_
  refine lv_aload_n hx hb dX5_copyWorks_16 rfl (lv_at hl 1 rfl) ?_
  refine zg_X5_53 C hw (zn1 hL gv) dX5_copyWorks_17 ?_
  refine zp_X5_53 C hw (zn1 hL gw) dX5_copyWorks_20 (fun H locs m2 em2 hw => ?_)
  refine lv_iconst (v := 0) hx hb dX5_copyWorks_23 (by decide) ?_
  refine lv_istore_n (lv' := [(2, .int 0), (0, .ref (ad (1, w, 0))), (1, .ref (ad (1, v, 0)))]) hx hb dX5_copyWorks_24 rfl hl (by decide) rfl (fun ls hl => ?_)
  have loop25 : ∀ (z : Nat) (k : Nat) (m0 : ZM) (H : Heap) (locs : List Loc) (ls : Array Slot), bc - k = z → (k ≤ bc) → (m0 = q_cpBoxes w v sc (q_cpw1 m w v) k) → zH D cy ad L s.heap H locs m0 → lv_has ls 3 [(0, .ref (ad (1, w, 0))), (1, .ref (ad (1, v, 0))), (2, .int (nI k))] → W p l e ({ frames := 4, cells := 0, slots := 0, locals := 86 } : Room) s mi [.ref (ad (1, w, 0)), .ref (ad (1, v, 0))].toArray below meth c H locs 0 0 (MQ below (zQv (fun m1 => m1 = q_copyWorks m w v bc sc fq hn) D cy ad L s.heap.size) [.ref (ad (1, w, 0)), .ref (ad (1, v, 0))].toArray s 0 0 (zA ad L s.heap.size)) (F0 mi 25 ls []) := by
    intro z
    induction z using Nat.strongRecOn with
    | _ z ih25 =>
    intro k m0 H locs ls hz25 i25_1 i25_2 hw hl
    have h1 : m0 (1, w, 0) 9 = nI bc := by rw [i25_2, q_cpBoxes_k (zk rfl) (zk rfl) (zk rfl)]; exact q_cpw1_9.trans hbc
    have h2 : k < 4 → m0 (4, v, k) 4 = nI (sc k) := fun q => by rw [i25_2, q_cpBoxes_o nwv, q_cpw1_k (zk rfl) (zk rfl)]; exact (hbx k q).1
    refine lv_iload_n hx hb dX5_copyWorks_25 rfl (lv_at hl 2 rfl) ?_
    refine lv_aload_n hx hb dX5_copyWorks_26 rfl (lv_at hl 0 rfl) ?_
    refine zg_X5_53 C hw (zn1 hL gw) dX5_copyWorks_27 ?_
    refine ztop h1 ?_
    refine lv_icmp_ge (tgt := 54) hx hb dX5_copyWorks_30 (by decide) (fun c30_3 => ?_) (fun c30_3 => ?_)
    · skip
      have n4 := zle c30_3 (a := bc) (b := k) rfl rfl (by omega) (by omega)
      refine lv_aload_n hx hb dX5_copyWorks_54 rfl (lv_at hl 0 rfl) ?_
      refine zg_X5_25 C hw (zn1 hL gw) dX5_copyWorks_55 ?_
      refine lv_aload_n hx hb dX5_copyWorks_58 rfl (lv_at hl 1 rfl) ?_
      refine zg_X5_25 C hw (zn1 hL gv) dX5_copyWorks_59 ?_
      have h3 : m0 (8, v, 0) 1 = nI fq := by rw [i25_2, q_cpBoxes_k (zk rfl) (zk rfl) (zk rfl), q_cpw1_k (zk rfl) (zk rfl)]; exact hfq
      have h4 : m0 (8, v, 0) 2 = nI hn := by rw [i25_2, q_cpBoxes_k (zk rfl) (zk rfl) (zk rfl), q_cpw1_k (zk rfl) (zk rfl)]; exact hhn
      refine zafter_v C hw (zrunV (rest := []) C hml hl.1 hw (zn8 hL gw) rfl rfl (c_X1_copyHopper l D cy ad m0 H.size hL gw gv nwv h3 lfq h4 lhn) zv_X5_176 rfl rfl rfl ⟨Nat.le_of_ble_eq_true rfl, Nat.le_of_ble_eq_true rfl⟩ rfl (Nat.le_of_ble_eq_true rfl) dX5_copyWorks_62 ⟨Nat.zero_le _, Nat.zero_le _⟩) (fun m6 H locs h5 hw => ?_)
      have em6 := h5
      refine lv_iconst (v := 0) hx hb dX5_copyWorks_65 (by decide) ?_
      refine lv_istore_n (lv' := [(2, .int 0), (0, .ref (ad (1, w, 0))), (1, .ref (ad (1, v, 0)))]) hx hb dX5_copyWorks_66 rfl hl (by decide) rfl (fun ls hl => ?_)
      have loop67 : ∀ (z : Nat) (j : Nat) (m2 : ZM) (H : Heap) (locs : List Loc) (ls : Array Slot), 3 - j = z → (j ≤ 3) → (m2 = q_cpBuds w v m6 j) → zH D cy ad L s.heap H locs m2 → lv_has ls 3 [(0, .ref (ad (1, w, 0))), (1, .ref (ad (1, v, 0))), (2, .int (nI j))] → W p l e ({ frames := 4, cells := 0, slots := 0, locals := 86 } : Room) s mi [.ref (ad (1, w, 0)), .ref (ad (1, v, 0))].toArray below meth c H locs 0 0 (MQ below (zQv (fun m1 => m1 = q_copyWorks m w v bc sc fq hn) D cy ad L s.heap.size) [.ref (ad (1, w, 0)), .ref (ad (1, v, 0))].toArray s 0 0 (zA ad L s.heap.size)) (F0 mi 67 ls []) := by
        intro z
        induction z using Nat.strongRecOn with
        | _ z ih67 =>
        intro j m2 H locs ls hz67 i67_1 i67_2 hw hl
        refine lv_iload_n hx hb dX5_copyWorks_67 rfl (lv_at hl 2 rfl) ?_
        refine lv_iconst (v := 3) hx hb dX5_copyWorks_68 (by decide) ?_
        refine lv_icmp_ge (tgt := 93) hx hb dX5_copyWorks_69 (by decide) (fun c69_8 => ?_) (fun c69_8 => ?_)
        · skip
          have n9 := zle c69_8 (a := 3) (b := j) rfl rfl (by omega) (by omega)
          refine lv_aload_n hx hb dX5_copyWorks_93 rfl (lv_at hl 0 rfl) ?_
          refine lv_aload_n hx hb dX5_copyWorks_94 rfl (lv_at hl 1 rfl) ?_
          refine zg_X5_50 C hw (zn1 hL gv) dX5_copyWorks_95 ?_
          refine zp_X5_50 C hw (zn1 hL gw) dX5_copyWorks_98 (fun H locs m10 em10 hw => ?_)
          refine lv_aload_n hx hb dX5_copyWorks_101 rfl (lv_at hl 0 rfl) ?_
          refine lv_aload_n hx hb dX5_copyWorks_102 rfl (lv_at hl 1 rfl) ?_
          refine zg_X5_43 C hw (zn1 hL gv) dX5_copyWorks_103 ?_
          refine zp_X5_43 C hw (zn1 hL gw) dX5_copyWorks_106 (fun H locs m11 em11 hw => ?_)
          refine lv_aload_n hx hb dX5_copyWorks_109 rfl (lv_at hl 0 rfl) ?_
          refine lv_aload_n hx hb dX5_copyWorks_110 rfl (lv_at hl 1 rfl) ?_
          refine zg_X5_47 C hw (zn1 hL gv) dX5_copyWorks_111 ?_
          refine zp_X5_47 C hw (zn1 hL gw) dX5_copyWorks_114 (fun H locs m12 em12 hw => ?_)
          refine lv_aload_n hx hb dX5_copyWorks_117 rfl (lv_at hl 0 rfl) ?_
          refine lv_aload_n hx hb dX5_copyWorks_118 rfl (lv_at hl 1 rfl) ?_
          refine zg_X5_72 C hw (zn1 hL gv) dX5_copyWorks_119 ?_
          refine zp_X5_72 C hw (zn1 hL gw) dX5_copyWorks_122 (fun H locs m13 em13 hw => ?_)
          exact zret_v C hr hlocks hw dX5_copyWorks_125 (by obtain rfl : k = bc := (by omega); obtain rfl : j = 3 := (by omega); subst_vars; rfl)
        · skip
          have n14 := znle c69_8 (a := 3) (b := j) rfl rfl (by omega) (by omega)
          refine lv_aload_n hx hb dX5_copyWorks_72 rfl (lv_at hl 0 rfl) ?_
          refine zg_X5_31 C hw (zn1 hL gw) dX5_copyWorks_73 ?_
          refine lv_iload_n hx hb dX5_copyWorks_76 rfl (lv_at hl 2 rfl) ?_
          refine zald_11N C hw (zn11 hL gw) j (by omega) rfl dX5_copyWorks_77 ?_
          refine lv_aload_n hx hb dX5_copyWorks_78 rfl (lv_at hl 1 rfl) ?_
          refine zg_X5_31 C hw (zn1 hL gv) dX5_copyWorks_79 ?_
          refine lv_iload_n hx hb dX5_copyWorks_82 rfl (lv_at hl 2 rfl) ?_
          refine zald_11N C hw (zn11 hL gv) j (by omega) rfl dX5_copyWorks_83 ?_
          refine zafter_v C hw (zrunV (rest := []) C hml hl.1 hw (zn7 hL gw (by omega)) rfl rfl (c_X3_copyOre l D cy ad m2 H.size hL gw (by omega) gv (by omega)) zv_X5_180 rfl rfl rfl ⟨Nat.le_of_ble_eq_true rfl, Nat.le_of_ble_eq_true rfl⟩ rfl (Nat.le_of_ble_eq_true rfl) dX5_copyWorks_84 ⟨Nat.zero_le _, Nat.zero_le _⟩) (fun m16 H locs h15 hw => ?_)
          have em16 := h15
          refine lv_iinc (v := (nI (j + 1))) (lv' := [(2, .int (nI (j + 1))), (0, .ref (ad (1, w, 0))), (1, .ref (ad (1, v, 0)))]) hx hb dX5_copyWorks_87 hl (k := 2) rfl (nI_1 j) (by decide) rfl (fun ls hl => ?_)
          refine lv_goto (tgt := 67) hx hb dX5_copyWorks_90 (by decide) ?_
          exact ih67 _ (by omega) (j + 1) m16 _ _ _ rfl (by omega) (by rw [em16, i67_2]; rfl) hw (lv_sub hl [1, 2, 0] rfl)
      exact loop67 _ 0 m6 _ _ _ rfl (Nat.zero_le _) rfl hw (lv_sub hl [1, 2, 0] rfl)
    · skip
      have n18 := znle c30_3 (a := bc) (b := k) rfl rfl (by omega) (by omega)
      refine lv_aload_n hx hb dX5_copyWorks_33 rfl (lv_at hl 0 rfl) ?_
      refine zg_X5_17 C hw (zn1 hL gw) dX5_copyWorks_34 ?_
      refine lv_iload_n hx hb dX5_copyWorks_37 rfl (lv_at hl 2 rfl) ?_
      refine zald_3N C hw (zn3 hL gw) k (by omega) rfl dX5_copyWorks_38 ?_
      refine lv_aload_n hx hb dX5_copyWorks_39 rfl (lv_at hl 1 rfl) ?_
      refine zg_X5_17 C hw (zn1 hL gv) dX5_copyWorks_40 ?_
      refine lv_iload_n hx hb dX5_copyWorks_43 rfl (lv_at hl 2 rfl) ?_
      refine zald_3N C hw (zn3 hL gv) k (by omega) rfl dX5_copyWorks_44 ?_
      refine zafter_v C hw (zrunV (rest := []) C hml hl.1 hw (zn4 hL gw (by omega)) rfl rfl (c_X0_copyBox l D cy ad m0 H.size hL gw (by omega) gv (by omega) (h2 (by omega)) (hbx k (by omega)).2.1) zv_X5_172 rfl rfl rfl ⟨Nat.le_of_ble_eq_true rfl, Nat.le_of_ble_eq_true rfl⟩ rfl (Nat.le_of_ble_eq_true rfl) dX5_copyWorks_45 ⟨Nat.zero_le _, Nat.zero_le _⟩) (fun m20 H locs h19 hw => ?_)
      have em20 := h19
      refine lv_iinc (v := (nI (k + 1))) (lv' := [(2, .int (nI (k + 1))), (0, .ref (ad (1, w, 0))), (1, .ref (ad (1, v, 0)))]) hx hb dX5_copyWorks_48 hl (k := 2) rfl (nI_1 k) (by decide) rfl (fun ls hl => ?_)
      refine lv_goto (tgt := 25) hx hb dX5_copyWorks_51 (by decide) ?_
      exact ih25 _ (by omega) (k + 1) m20 _ _ _ rfl (by omega) (by rw [em20, i25_2]; rfl) hw (lv_sub hl [1, 2, 0] rfl)
  exact loop25 _ 0 m2 _ _ _ rfl (Nat.zero_le _) (by subst_vars; rfl) hw (lv_sub hl [1, 2, 0] rfl)
