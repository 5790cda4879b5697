/-! ===== answers don't depend on what is hidden ===== -/
section Vs
variable {σ τ : qσ}
theorem Vis.r (h : Vis σ τ) {k : Nat} (hk : k < 60) : τ k = σ k := h k (by unfold hid; omega)
theorem Vis.d (h : Vis σ τ) : τ 106 = σ 106 := h 106 (by unfold hid; omega)
theorem Vis.d1 (h : Vis σ τ) : τ 107 = σ 107 := h 107 (by unfold hid; omega)
theorem atF_v {r : Nat} (h1 : τ r = σ r) (h2 : τ (r + 1) = σ (r + 1)) (i : Int32) : atF τ r i = atF σ r i := by
  unfold atF
  rw [h1, h2]
theorem cntF_v {r : Nat} (h1 : τ r = σ r) : cntF τ r = cntF σ r := by
  unfold cntF
  rw [h1]
theorem shut_v (h : Vis σ τ) {zc : Nat} (hz : zc ≤ 6) (a r m : Int32) : isShutF τ zc a r m = isShutF σ zc a r m := isShut_ext (fun k hk => h.r (by omega)) hz a r m
theorem cost_v (h : Vis σ τ) (d : Int32) : costF τ d = costF σ d := costF_ext (fun k hk => h.r (by omega)) d
theorem tower_v (h : Vis σ τ) {r : Nat} (h1 : τ r = σ r) (h2 : τ (r + 1) = σ (r + 1)) : ∀ j i, towerL τ r j i = towerL σ r j i := by
  have a := atF_v h1 h2
  have e4 : τ 4 = σ 4 := h.r (by omega)
  intro j
  induction j with
  | zero => intro i; rfl
  | succ j ih => intro i; simp only [towerL, a, e4, ih]
theorem zoneIn_v (h : Vis σ τ) {r rc zc : Nat} (hz : zc ≤ 6) (h1 : τ r = σ r) (h2 : τ (r + 1) = σ (r + 1)) (hc : τ rc = σ rc) (i : Nat) : ∀ j t, zoneInL τ r rc zc i j t = zoneInL σ r rc zc i j t := by
  have a := atF_v h1 h2
  intro j
  induction j with
  | zero => intro t; rfl
  | succ j ih => intro t; simp only [zoneInL, a, hc, shut_v h hz, ih]
theorem zone_v (h : Vis σ τ) {r rc zc st : Nat} (hz : zc ≤ 6) (h1 : τ r = σ r) (h2 : τ (r + 1) = σ (r + 1)) (hc : τ rc = σ rc) : ∀ j i, zoneL τ r rc zc st j i = zoneL σ r rc zc st j i := by
  intro j
  induction j with
  | zero => intro i; rfl
  | succ j ih => intro i; simp only [zoneL, zoneIn_v h hz h1 h2 hc, ih]
theorem meetIn_v {r o : Nat} (h0 : τ r = σ r) (h1 : τ (r + 1) = σ (r + 1)) (h2 : τ (r + 1 + 1) = σ (r + 1 + 1)) (g0 : τ o = σ o) (g1 : τ (o + 1) = σ (o + 1)) (os : Int32) (i : Nat) : ∀ j t, meetInL τ r o os i j t = meetInL σ r o os i j t := by
  have a1 := atF_v h1 h2
  have a2 := atF_v g0 g1
  intro j
  induction j with
  | zero => intro t; rfl
  | succ j ih => intro t; simp only [meetInL, h0, a1, a2, ih]
theorem meet_v {r o : Nat} (h0 : τ r = σ r) (h1 : τ (r + 1) = σ (r + 1)) (h2 : τ (r + 1 + 1) = σ (r + 1 + 1)) (g0 : τ o = σ o) (g1 : τ (o + 1) = σ (o + 1)) (os : Int32) (co : Nat) : ∀ j i, meetL τ r o os co j i = meetL σ r o os co j i := by
  intro j
  induction j with
  | zero => intro i; rfl
  | succ j ih => intro i; simp only [meetL, meetIn_v h0 h1 h2 g0 g1, ih]
theorem close_v {r o : Nat} (h0 : τ r = σ r) (h1 : τ (r + 1) = σ (r + 1)) (g0 : τ o = σ o) (os : Int32) : closeF τ r o os = closeF σ r o os := by
  unfold closeF endF
  rw [h0, h1, g0]
theorem others_v (h : Vis σ τ) {r : Nat} (g0 : τ r = σ r) (g1 : τ (r + 1) = σ (r + 1)) (num st : Int32) : ∀ j i, i + j ≤ 12 → othersL τ num r st j i = othersL σ num r st j i := by
  intro j
  induction j with
  | zero => intro i _; rfl
  | succ j ih =>
    intro i hi
    have h0 : τ (14 + 10 + 3 * i) = σ (14 + 10 + 3 * i) := h.r (by omega)
    have h1 : τ (14 + 10 + 3 * i + 1) = σ (14 + 10 + 3 * i + 1) := h.r (by omega)
    have h2 : τ (14 + 10 + 3 * i + 1 + 1) = σ (14 + 10 + 3 * i + 1 + 1) := h.r (by omega)
    simp only [othersL, h0, close_v h0 h1 g0, meet_v h0 h1 h2 g0 g1, cntF_v g0, cntF_v h1, ih (i + 1) (by omega)]
theorem itself_v (h : Vis σ τ) {r : Nat} (g0 : τ r = σ r) (num st : Int32) : ∀ j i, i + j ≤ 12 → itselfL τ num r st j i = itselfL σ num r st j i := by
  intro j
  induction j with
  | zero => intro i _; rfl
  | succ j ih =>
    intro i hi
    have h0 : τ (14 + 10 + 3 * i) = σ (14 + 10 + 3 * i) := h.r (by omega)
    have h1 : τ (14 + 10 + 3 * i + 1) = σ (14 + 10 + 3 * i + 1) := h.r (by omega)
    simp only [itselfL, h0, close_v h0 h1 g0, ih (i + 1) (by omega)]
theorem costR_v (h : Vis σ τ) {r cnt : Nat} (g0 : τ r = σ r) (g1 : τ (r + 1) = σ (r + 1)) : costRF τ r cnt = costRF σ r cnt := by
  have a := atF_v g0 g1
  have k : ∀ j i x, costL τ r j i x = costL σ r j i x := by
    intro j
    induction j with
    | zero => intro i x; rfl
    | succ j ih => intro i x; simp only [costL, a, cost_v h, ih]
  exact k _ _ _
theorem way_v (h : Vis σ τ) {r cnt : Nat} (g0 : τ r = σ r) (g1 : τ (r + 1) = σ (r + 1)) : isWayF τ r cnt = isWayF σ r cnt := by
  have a := atF_v g0 g1
  have k : ∀ j i, wayL τ r j i = wayL σ r j i := by
    intro j
    induction j with
    | zero => intro i; rfl
    | succ j ih => intro i; simp only [wayL, a, ih]
  unfold isWayF firstF lastF hasPadF
  rw [g0, g1, h.r (show 5 < 60 by omega), k]
/-! what is planned -/
def Ve (σ τ : qσ) : Prop := Vis σ τ ∧ ∀ j, j < 25 → τ 109 j = σ 109 j
theorem Ve.set (h : Ve σ τ) (j : Nat) {v v' : Int32} (e : v' = v) : Ve (sset σ 109 j v) (sset τ 109 j v') := by
  subst e
  refine ⟨fun k hk => ?_, fun t ht => ?_⟩
  · have : k ≠ 109 := fun e => hk (Or.inr (Or.inl e))
    rw [sset_ne _ _ _ this, sset_ne _ _ _ this]; exact h.1 k hk
  · rw [sset_at, sset_at]
    by_cases e : t = j
    · rw [if_pos ⟨rfl, e⟩, if_pos ⟨rfl, e⟩]
    · rw [if_neg (fun x => e x.2), if_neg (fun x => e x.2)]; exact h.2 t ht
theorem Ve.step (h : Ve σ τ) {rc r : Nat} (hr : ¬ hid r) (hr1 : ¬ hid (r + 1)) (hc : ¬ hid rc) (i : Nat) : Ve (planStep σ rc r i) (planStep τ rc r i) := by
  have a := atF_v (h.1 r hr) (h.1 (r + 1) hr1) (nI i)
  unfold planStep
  rw [a]
  by_cases c : bI (isCellF (atF σ r (nI i))) = 0
  · rw [if_pos c, if_pos c]; exact h
  · rw [if_neg c, if_neg c]
    exact h.set _ (by rw [h.2 _ (cell_lt c), h.1 rc hc, h.1.r (show 3 < 60 by omega)])
theorem Ve.plan {rc r : Nat} (hr : ¬ hid r) (hr1 : ¬ hid (r + 1)) (hc : ¬ hid rc) : ∀ (j i : Nat) (σ τ : qσ), Ve σ τ → Ve (planL rc r j i σ) (planL rc r j i τ) := by
  intro j
  induction j with
  | zero => intro i σ τ h; exact h
  | succ j ih => intro i σ τ h; exact ih (i + 1) _ _ (h.step hr hr1 hc i)
theorem craft_lt {cc : Nat} {x : Int32} (hc : σ 14 2 = nI cc) (h6 : cc ≤ 6) (h : ¬ bI (isCraftF σ 14 x) = 0) : x.toNatClampNeg < 6 := by
  unfold isCraftF at h
  by_cases c : x < 0
  · rw [if_pos c] at h; exact absurd rfl h
  · rw [if_neg c] at h
    by_cases c2 : σ 14 2 ≤ x
    · rw [if_pos c2] at h; exact absurd rfl h
    · have := Int32.not_le.mp c2
      rw [hc] at this
      have := vp_lt (vp_in_z (n := cc) c this (by omega))
      omega
theorem Ve.dayS (h : Ve σ τ) {cc : Nat} (hc : σ 14 2 = nI cc) (h6 : cc ≤ 6) (day : Int32) {i : Nat} (hi : i < 12) : Ve (dayStep σ day i) (dayStep τ day i) := by
  have h0 : τ (14 + 10 + 3 * i) = σ (14 + 10 + 3 * i) := h.1.r (by omega)
  have h1 : τ (14 + 10 + 3 * i + 1) = σ (14 + 10 + 3 * i + 1) := h.1.r (by omega)
  have e14 : isCraftF τ 14 (σ (14 + 10 + 3 * i) 0) = isCraftF σ 14 (σ (14 + 10 + 3 * i) 0) := by
    unfold isCraftF
    rw [h.1.r (show 14 < 60 by omega)]
  unfold dayStep
  rw [h0, cntF_v h1, e14]
  by_cases c1 : bI (plannedF (σ (14 + 10 + 3 * i)) day) = 0
  · rw [if_pos c1, if_pos c1]; exact h
  · rw [if_neg c1, if_neg c1]
    by_cases c2 : bI (isCraftF σ 14 (σ (14 + 10 + 3 * i) 0)) = 0
    · rw [if_pos c2, if_pos c2]; exact h
    · rw [if_neg c2, if_neg c2]
      have := craft_lt hc h6 c2
      exact Ve.plan (by unfold hid; omega) (by unfold hid; omega) (by unfold hid; omega) _ _ _ _ h
theorem Ve.dayL {cc : Nat} (h6 : cc ≤ 6) (day : Int32) : ∀ (j i : Nat) (σ τ : qσ), σ 14 2 = nI cc → i + j ≤ 12 → Ve σ τ → Ve (dayL day j i σ) (dayL day j i τ) := by
  intro j
  induction j with
  | zero => intro i σ τ _ _ h; exact h
  | succ j ih => intro i σ τ hc hi h; exact ih (i + 1) _ _ (by rw [dayStep_pl 14 (by omega)]; exact hc) (by omega) (h.dayS hc h6 day (by omega))
theorem Vis.fill (h : Vis σ τ) : Ve (srow σ 109 (fillF 25 0 (σ 109))) (srow τ 109 (fillF 25 0 (τ 109))) := by
  refine ⟨fun k hk => ?_, fun j hj => ?_⟩
  · have : k ≠ 109 := fun e => hk (Or.inr (Or.inl e))
    rw [srow_ne _ _ this, srow_ne _ _ this]; exact h k hk
  · rw [srow_self, srow_self]
    unfold fillF
    rw [if_pos hj, if_pos hj]
theorem Vis.planDay (h : Vis σ τ) {cc fc : Nat} (hc : σ 14 2 = nI cc) (h6 : cc ≤ 6) (h12 : fc ≤ 12) (day : Int32) : Ve (planDayF σ day fc) (planDayF τ day fc) :=
  Ve.dayL h6 day fc 0 _ _ (by rw [srow_ne _ _ (by omega)]; exact hc) (by omega) h.fill
theorem Ve.loud (h : Ve σ τ) {r : Nat} (hr : ¬ hid r) (hr1 : ¬ hid (r + 1)) : ∀ j i, loudL τ r j i = loudL σ r j i := by
  have a := atF_v (h.1 r hr) (h.1 (r + 1) hr1)
  intro j
  induction j with
  | zero => intro i; rfl
  | succ j ih =>
    intro i
    unfold loudL
    rw [a, ih]
    by_cases c : bI (isCellF (atF σ r (nI i))) = 0
    · rw [if_pos c, if_pos c]
    · rw [if_neg c, if_neg c, h.2 _ (cell_lt c)]
theorem Vis.loudS (h : Vis σ τ) {cc fc rc r : Nat} (hc : σ 14 2 = nI cc) (h6 : cc ≤ 6) (h12 : fc ≤ 12) (hr : ¬ hid r) (hr1 : ¬ hid (r + 1)) (hrc : ¬ hid rc) (st : Int32) : Ve (loudS σ rc r st fc) (loudS τ rc r st fc) := by
  unfold Jvm.Pilot.CLowAirLaw_law_r2634_e42bee.loudS
  have h1 := h.planDay hc h6 h12 (st / 1440)
  rw [cntF_v (h1.1 r hr)]
  exact Ve.plan hr hr1 hrc _ _ _ _ h1
theorem reason_v (h : Vis σ τ) {cc fc zc : Nat} (hW : WF σ 14 cc fc zc) {c st : Nat} (hc : c < cc) : reasonF τ c 106 st fc zc = reasonF σ c 106 st fc zc := by
  have h6 := hW.2.1.2
  have h12 := hW.2.2.1.2
  have d0 := h.d
  have d1 := h.d1
  have ec : τ (14 + 4 + c) = σ (14 + 4 + c) := h.r (by omega)
  have hl := h.loudS (rc := 14 + 4 + c) (r := 106) hW.2.1.1 h6 h12 (by unfold hid; omega) (by unfold hid; omega) (by unfold hid; omega) (nI st)
  have el : loudB τ (14 + 4 + c) 106 (nI st) fc = loudB σ (14 + 4 + c) 106 (nI st) fc := by
    unfold loudB
    rw [cntF_v (hl.1.d), hl.loud (by unfold hid; omega) (by unfold hid; omega)]
  unfold reasonF
  rw [cntF_v d0, tower_v h d0 d1, zone_v h hW.2.2.2.1.2 d0 d1 ec, others_v h d0 d1 _ _ _ _ (by omega), itself_v h d0 _ _ _ _ (by omega), costR_v h d0 d1, ec, el]
theorem so_v {cc fc zc c nw : Nat} (hc : c < cc) : ∀ (j i : Nat) (σ τ : qσ), Vis σ τ → WF σ 14 cc fc zc → (soL c fc zc nw j i τ).1 = (soL c fc zc nw j i σ).1 := by
  intro j
  induction j with
  | zero => intro i σ τ _ _; rfl
  | succ j ih =>
    intro i σ τ h hW
    unfold soL
    rw [reason_v h hW hc]
    by_cases e : reasonF σ c 106 (nw + i) fc zc = 0
    · rw [if_pos e, if_pos e]
    · rw [if_neg e, if_neg e]
      exact ih (i + 1) _ _ (reasonS_pl.v.sy.tr (h.tr reasonS_pl.v)) (hW.vis reasonS_pl.v)
/-! the search -/
def Vl (σ τ : qσ) : Prop := Vis σ τ ∧ (∀ j, j < 25 → τ 111 j = σ 111 j) ∧ ∀ j, j < 25 → τ 112 j = σ 112 j
theorem Vl.set (h : Vl σ τ) (j : Nat) {v v' : Int32} (e : v' = v) : Vl (sset σ 112 j v) (sset τ 112 j v') := by
  subst e
  refine ⟨fun k hk => ?_, fun t ht => ?_, fun t ht => ?_⟩
  · have : k ≠ 112 := fun e => hk (Or.inr (Or.inr (Or.inr e)))
    rw [sset_ne _ _ _ this, sset_ne _ _ _ this]; exact h.1 k hk
  · rw [sset_ne _ _ _ (by omega), sset_ne _ _ _ (by omega)]; exact h.2.1 t ht
  · rw [sset_at, sset_at]
    by_cases e : t = j
    · rw [if_pos ⟨rfl, e⟩, if_pos ⟨rfl, e⟩]
    · rw [if_neg (fun x => e x.2), if_neg (fun x => e x.2)]; exact h.2.2 t ht
theorem Vl.if {p : Prop} [Decidable p] {σ1 σ2 τ1 τ2 : qσ} (h1 : p → Vl σ1 τ1) (h2 : ¬ p → Vl σ2 τ2) : Vl (if p then σ1 else σ2) (if p then τ1 else τ2) := by
  by_cases h : p
  · rw [if_pos h, if_pos h]; exact h1 h
  · rw [if_neg h, if_neg h]; exact h2 h
theorem clamp_lt {c : Nat} (hc : c < 25) : (nI c).toNatClampNeg < 25 := by rw [nI_clamp (by omega)]; exact hc
theorem Vl.spr (h : Vl σ τ) {c d : Nat} (hc : c < 25) (b : Bool) : sprB τ c d b = sprB σ c d b ∧ Vl (sprS σ c d b) (sprS τ c d b) := by
  unfold sprB sprS
  by_cases e : bI (isCellF (neighF (nI c) d)) = 0
  · rw [if_pos e, if_pos e, if_pos e, if_pos e]; exact ⟨rfl, h⟩
  · rw [if_neg e, if_neg e, if_neg e, if_neg e, h.2.1 _ (cell_lt e), h.2.2 _ (cell_lt e), h.2.2 _ (clamp_lt hc), cost_v h.1]
    refine ⟨rfl, Vl.if (fun _ => h) fun _ => Vl.if (fun _ => Vl.if (fun _ => h.set _ rfl) fun _ => h) fun _ => Vl.if (fun _ => h.set _ rfl) fun _ => h⟩
theorem Vl.saIn {c : Nat} (hc : c < 25) (b : Bool) : ∀ (j d : Nat) (ch : Bool) (σ τ : qσ), Vl σ τ → (saIn c b j d ch τ).1 = (saIn c b j d ch σ).1 ∧ Vl (saIn c b j d ch σ).2 (saIn c b j d ch τ).2 := by
  intro j
  induction j with
  | zero => intro d ch σ τ h; exact ⟨rfl, h⟩
  | succ j ih =>
    intro d ch σ τ h
    obtain ⟨s1, s2⟩ := h.spr hc (d := d) b
    unfold Jvm.Pilot.CLowAirLaw_law_r2634_e42bee.saIn
    rw [h.2.2 _ (clamp_lt hc), s1]
    by_cases e : 1000000 ≤ σ 112 (nI c).toNatClampNeg
    · rw [if_pos e, if_pos e]; exact ih _ _ _ _ h
    · rw [if_neg e, if_neg e]; exact ih _ _ _ _ s2
theorem Vl.saOut (b : Bool) : ∀ (j c : Nat) (ch : Bool) (σ τ : qσ), c + j ≤ 25 → Vl σ τ → (saOut b j c ch τ).1 = (saOut b j c ch σ).1 ∧ Vl (saOut b j c ch σ).2 (saOut b j c ch τ).2 := by
  intro j
  induction j with
  | zero => intro c ch σ τ _ h; exact ⟨rfl, h⟩
  | succ j ih =>
    intro c ch σ τ hc h
    obtain ⟨s1, s2⟩ := Vl.saIn (c := c) (by omega) b 4 0 ch σ τ h
    unfold Jvm.Pilot.CLowAirLaw_law_r2634_e42bee.saOut
    rw [s1]
    exact ih _ _ _ _ (by omega) s2
theorem Vl.round (b : Bool) : ∀ (j : Nat) (ch : Bool) (σ τ : qσ), Vl σ τ → Vl (roundL b j ch σ) (roundL b j ch τ) := by
  intro j
  induction j with
  | zero => intro ch σ τ h; exact h
  | succ j ih =>
    intro ch σ τ h
    obtain ⟨s1, s2⟩ := Vl.saOut b 25 0 false σ τ (by omega) h
    unfold roundL
    rw [s1]
    exact Vl.if (fun _ => h) (fun _ => ih _ _ _ s2)
theorem open_v {rc zc : Nat} (hz : zc ≤ 6) (hrc : rc < 60) (now : Int32) : ∀ (j i : Nat) (σ τ : qσ), Vis σ τ → (∀ t, t < i → τ 111 t = σ 111 t) → i + j ≤ 25 → Vis (openL rc zc now j i σ) (openL rc zc now j i τ) ∧ ∀ t, t < i + j → openL rc zc now j i τ 111 t = openL rc zc now j i σ 111 t := by
  intro j
  induction j with
  | zero => intro i σ τ h g _; exact ⟨h, g⟩
  | succ j ih =>
    intro i σ τ h g hi
    have e4 : τ 4 = σ 4 := h.r (by omega)
    have er : τ rc = σ rc := h.r hrc
    unfold openL
    rw [e4, er, shut_v h hz, show i + (j + 1) = i + 1 + j by omega]
    refine ih (i + 1) _ _ (fun k hk => ?_) (fun t ht => ?_) (by omega)
    · have : k ≠ 111 := fun e => hk (Or.inr (Or.inr (Or.inl e)))
      rw [sset_ne _ _ _ this, sset_ne _ _ _ this]; exact h k hk
    · rw [sset_at, sset_at]
      by_cases e : t = (nI i).toNatClampNeg
      · have q : (111 : Nat) = 111 ∧ t = (nI i).toNatClampNeg := ⟨rfl, e⟩
        exact (if_pos q).trans (if_pos q).symm
      · rw [if_neg (fun x => e x.2), if_neg (fun x => e x.2)]
        refine g t ?_
        rw [nI_clamp (by omega)] at e
        omega
theorem least_v (h : Vis σ τ) {rc zc : Nat} (hz : zc ≤ 6) (hrc : rc < 60) (now : Int32) (b : Bool) {tg : Int32} (htg : vp_in tg 25) : leastF τ rc zc tg now b = leastF σ rc zc tg now b := by
  obtain ⟨v1, v2⟩ := open_v hz hrc now 25 0 σ τ h (fun t ht => absurd ht (Nat.not_lt_zero t)) (by omega)
  have hl : Vl (srow (openL rc zc now 25 0 σ) 112 (fillF 25 1000000 (openL rc zc now 25 0 σ 112))) (srow (openL rc zc now 25 0 τ) 112 (fillF 25 1000000 (openL rc zc now 25 0 τ 112))) := by
    refine ⟨fun k hk => ?_, fun t ht => ?_, fun t ht => ?_⟩
    · have : k ≠ 112 := fun e => hk (Or.inr (Or.inr (Or.inr e)))
      rw [srow_ne _ _ this, srow_ne _ _ this]; exact v1 k hk
    · rw [srow_ne _ _ (by omega), srow_ne _ _ (by omega)]; exact v2 t (by omega)
    · rw [srow_self, srow_self]
      unfold fillF
      rw [if_pos ht, if_pos ht]
  have hs : Vl (leastS σ rc zc now b) (leastS τ rc zc now b) := by
    unfold leastS
    dsimp only
    rw [hl.1.r hrc]
    exact Vl.round b 25 true _ _ (Vl.if (fun _ => hl) fun _ => hl.set _ rfl)
  unfold leastF
  rw [hs.2.2 _ (vp_lt htg)]
/-! the other answers -/
theorem fin_v (h : Vis σ τ) (st : Int32) : ∀ j i a, i + j ≤ 12 → finL τ 14 st j i a = finL σ 14 st j i a := by
  intro j
  induction j with
  | zero => intro i a _; rfl
  | succ j ih =>
    intro i a hi
    have h0 : τ (14 + 10 + 3 * i) = σ (14 + 10 + 3 * i) := h.r (by omega)
    simp only [finL, h0, ih (i + 1) _ (by omega)]
theorem fly_v (h : Vis σ τ) (c : Int32) : ∀ j i a, i + j ≤ 6 → flyL τ 14 c j i a = flyL σ 14 c j i a := by
  intro j
  induction j with
  | zero => intro i a _; rfl
  | succ j ih =>
    intro i a hi
    have h0 : τ (14 + 4 + i) = σ (14 + 4 + i) := h.r (by omega)
    simp only [flyL, h0, ih (i + 1) _ (by omega)]
theorem bre_v (h : Vis σ τ) : ∀ j i a, i + j ≤ 6 → breL τ 14 j i a = breL σ 14 j i a := by
  intro j
  induction j with
  | zero => intro i a _; rfl
  | succ j ih =>
    intro i a hi
    have h0 : τ (14 + 4 + i) = σ (14 + 4 + i) := h.r (by omega)
    simp only [breL, h0, ih (i + 1) _ (by omega)]
theorem occ_v {r : Nat} (h0 : τ r = σ r) (h1 : τ (r + 1) = σ (r + 1)) (h2 : τ (r + 1 + 1) = σ (r + 1 + 1)) (c m : Int32) : ∀ j i, occL τ r c m j i = occL σ r c m j i := by
  have a := atF_v h1 h2
  intro j
  induction j with
  | zero => intro i; rfl
  | succ j ih => intro i; simp only [occL, h0, a, ih]
theorem oc_v (h : Vis σ τ) (c m : Int32) : ∀ j i, i + j ≤ 12 → ocL τ c m j i = ocL σ c m j i := by
  intro j
  induction j with
  | zero => intro i _; rfl
  | succ j ih =>
    intro i hi
    have h0 : τ (14 + 10 + 3 * i) = σ (14 + 10 + 3 * i) := h.r (by omega)
    have h1 : τ (14 + 10 + 3 * i + 1) = σ (14 + 10 + 3 * i + 1) := h.r (by omega)
    have h2 : τ (14 + 10 + 3 * i + 1 + 1) = σ (14 + 10 + 3 * i + 1 + 1) := h.r (by omega)
    simp only [ocL, h0, cntF_v h1, occ_v h0 h1 h2, ih (i + 1) (by omega)]
theorem many_v (h : Vis σ τ) {w cc fc : Nat} (h6 : cc ≤ 6) (h12 : fc ≤ 12) : manyV τ w cc fc = manyV σ w cc fc := by
  unfold manyV
  rw [h.r (show 14 < 60 by omega), h.r (show 2 < 60 by omega), h.d, bre_v h _ _ _ (by omega)]
  split <;> first | rfl | exact fin_v h _ _ _ _ (by omega)
theorem cell_v (h : Vis σ τ) {c w cc fc zc : Nat} (hW : WF σ 14 cc fc zc) (hc : c < 25) : ofCellV τ c w cc fc = ofCellV σ c w cc fc := by
  have h6 := hW.2.1.2
  have h12 := hW.2.2.1.2
  unfold ofCellV
  rw [h.r (show 3 < 60 by omega), h.r (show 4 < 60 by omega), h.r (show 5 < 60 by omega), h.r (show 14 + 3 < 60 by omega), h.r (show 14 < 60 by omega), (h.planDay hW.2.1.1 h6 h12 _).2 _ (clamp_lt hc), fly_v h _ _ _ _ (by omega)]
theorem flight_v (h : Vis σ τ) {i w : Nat} (hi : i < 12) : ofFlightV τ (14 + 10 + 3 * i) w = ofFlightV σ (14 + 10 + 3 * i) w := by
  have h0 : τ (14 + 10 + 3 * i) = σ (14 + 10 + 3 * i) := h.r (by omega)
  have h1 : τ (14 + 10 + 3 * i + 1) = σ (14 + 10 + 3 * i + 1) := h.r (by omega)
  unfold ofFlightV endF
  rw [h0, h1]
end Vs
