/-! ===== the law's state ===== -/
def padI (c : Nat) : Int32 := if c = 0 then 0 else if c = 2 then 1 else if c = 12 then 2 else if c = 20 then 3 else if c = 24 then 4 else -1
abbrev LG (σ : qσ) : Prop := (∀ p, p < 5 → σ 6 p = nI (pdN p)) ∧ (∀ c, c < 25 → σ 5 c = padI c) ∧ (∀ c, c < 25 → ∃ b, σ 4 c = bI b) ∧ ∃ w, w ≤ 3 ∧ σ 2 8 = nI w
abbrev LW (σ : qσ) (fc zc nw dc : Nat) (A : aS) (l : Bool) : Prop := OK σ 5 5 fc zc nw dc ∧ LG σ ∧ RS σ 5 fc A ∧ JJ 5 fc nw (fun _ => nw) A ∧ (l = true → (∀ i, i < 5 → (A.C i).lk = true) ∧ A.ne = 0)
def okd (k j : Nat) : Prop := (k = 14 ∧ (j = 2 ∨ j = 4 ∨ j = 8)) ∨ (k = 2 ∧ (j = 4 ∨ j = 6)) ∨ (18 ≤ k ∧ k < 24 ∧ j = 6) ∨ (24 ≤ k ∧ k < 60 ∧ j = 1) ∨ (k = 106 ∧ j = 1) ∨ (60 ≤ k ∧ k < 106 ∧ (j = 6 ∨ j = 1))
section Law
variable {σ τ : qσ} {pc cc fc zc nw dc : Nat} {A : aS} {l : Bool}
theorem OK.of (h : OK σ pc cc fc zc nw dc) (e : ∀ k j, okd k j → τ k j = σ k j) : OK τ pc cc fc zc nw dc := by
  obtain ⟨⟨hs, h1, h2, h3, h4, h5⟩, ⟨h6, h7⟩, h8, h9, h10⟩ := h
  refine ⟨⟨hs, ⟨?_, h1.2⟩, ⟨?_, h2.2⟩, ⟨?_, h3.2⟩, fun i hi => ?_, fun i hi => ?_⟩, ⟨fun i hi => ?_, fun i hi => ?_⟩, ⟨?_, h8.2⟩, ⟨?_, h9.2⟩, ⟨?_, h10.2⟩⟩
  · rw [e 14 2 (by unfold okd; omega)]; exact h1.1
  · rw [e 14 4 (by unfold okd; omega)]; exact h2.1
  · rw [e 2 6 (by unfold okd; omega)]; exact h3.1
  · rw [e _ 6 (by unfold okd; omega)]; exact h4 i hi
  · rw [e _ 1 (by unfold okd; omega)]; exact h5 i hi
  · rw [e _ 6 (by unfold okd; omega)]; exact h6 i hi
  · rw [e _ 1 (by unfold okd; omega)]; exact h7 i hi
  · rw [e 2 4 (by unfold okd; omega)]; exact h8.1
  · rw [e 14 8 (by unfold okd; omega)]; exact h9.1
  · rw [e 106 1 (by unfold okd; omega)]; exact h10.1
theorem LG.of (h : LG σ) (h6 : τ 6 = σ 6) (h5 : τ 5 = σ 5) (h4 : τ 4 = σ 4) (h2 : τ 2 8 = σ 2 8) : LG τ := by
  unfold LG
  rw [h6, h5, h4, h2]; exact h
theorem RS.up (h : RS σ cc fc A) (e : ∀ k, 14 ≤ k → k < 60 → τ k = σ k) : RS τ cc fc A := h.kv fun k j h1 h2 _ _ _ => by rw [e k h1 h2]
theorem LW.vis (h : LW σ fc zc nw dc A l) (hv : Vis σ τ) (ht : WT τ 60) : LW τ fc zc nw dc A l :=
  ⟨h.1.vis hv ht, h.2.1.of (hv.r (by omega)) (hv.r (by omega)) (hv.r (by omega)) (by rw [hv.r (show 2 < 60 by omega)]), h.2.2.1.up fun k _ hk => hv.r hk, h.2.2.2.1, h.2.2.2.2⟩
theorem HC.lk2 {n : Nat} {c0 c : aC} (h : ∃ c1, HC n c0 c1 ∧ c = chA n c1) : c.lk = c0.lk := by
  obtain ⟨c1, h1, h2⟩ := h
  rw [h2, chA_fl.2.1]; exact h1.lk
theorem LW.pass (h : LW σ fc zc nw dc A l) (h5 : nw + 1 ≤ 5000) : ∃ A', LW (playF 14 5 fc zc 1 σ) fc zc (nw + 1) dc A' l ∧ P3 5 fc (nw + 1) 5 A A' ∧ ∃ b, b ≤ 36 ∧ A'.ne = A.ne + nI b := by
  obtain ⟨hO, hG, hR, hJ, hl⟩ := h
  obtain ⟨w, hw3, hw⟩ := hG.2.2.2
  have hW := hO.1
  obtain ⟨A', r, p, e, eb⟩ := hR.minute hJ (by omega) hW hw hw3
  have ho : Only 14 σ (playF 14 5 fc zc 1 σ) := play_only 1 σ hW
  have hi : ∀ k j, (k < 14 ∨ 60 ≤ k) → playF 14 5 fc zc 1 σ k j = σ k j := fun k j hk => ho k j (by rintro (h | h | ⟨i, h⟩ | ⟨i, h⟩) <;> omega)
  have r' : RS (playF 14 5 fc zc 1 σ) 5 fc A' := r
  refine ⟨A', ⟨⟨hW.only ho, ⟨fun i hi2 => ?_, fun i hi2 => ?_⟩, ⟨?_, hO.2.2.1.2⟩, ⟨?_, h5⟩, ⟨?_, hO.2.2.2.2.2⟩⟩, ?_, r', p.j, fun hl1 => ?_⟩, p, eb⟩
  · rw [hi _ _ (by omega)]; exact hO.2.1.1 i hi2
  · rw [hi _ _ (by omega)]; exact hO.2.1.2 i hi2
  · rw [hi _ _ (by omega)]; exact hO.2.2.1.1
  · rw [r'.now, p.j.nw]
  · rw [hi _ _ (by omega)]; exact hO.2.2.2.2.1
  · exact hG.of (funext fun j => hi 6 j (by omega)) (funext fun j => hi 5 j (by omega)) (funext fun j => hi 4 j (by omega)) (hi 2 8 (by omega))
  · obtain ⟨l1, l2⟩ := hl hl1
    exact ⟨fun i hi => by rw [HC.lk2 (p.hc i hi hi)]; exact l1 i hi, by rw [e l1]; exact l2⟩
theorem LW.wind (h : LW σ fc zc nw dc A l) (d : Int32) {f : Nat} (hf : f ≤ 3) : LW (sset (sset σ 2 7 d) 2 8 (nI f)) fc zc nw dc A l := by
  obtain ⟨hO, hG, hR, hJ, hl⟩ := h
  refine ⟨hO.of fun k j hk => ?_, ⟨?_, ?_, ?_, f, hf, ?_⟩, hR.up fun k h1 _ => ?_, hJ, hl⟩
  · unfold okd at hk
    rw [sset_at, if_neg (by omega), sset_at, if_neg (by omega)]
  · rw [sset_ne _ _ _ (by omega), sset_ne _ _ _ (by omega)]; exact hG.1
  · rw [sset_ne _ _ _ (by omega), sset_ne _ _ _ (by omega)]; exact hG.2.1
  · rw [sset_ne _ _ _ (by omega), sset_ne _ _ _ (by omega)]; exact hG.2.2.1
  · rw [sset_at, if_pos ⟨rfl, rfl⟩]
  · rw [sset_ne _ _ _ (by omega), sset_ne _ _ _ (by omega)]
theorem LW.zone (h : LW σ fc zc nw dc A l) (hz : zc < 6) (c f t le : Int32) : LW (addZoneF σ zc c f t le) fc (zc + 1) nw dc A l := by
  obtain ⟨⟨⟨hs, h1, h2, h3, h4, h5⟩, ⟨h6, h7⟩, h8, h9, h10⟩, hG, hR, hJ, hl⟩ := h
  have e : ∀ k j, (k < 8 ∨ 14 ≤ k) → ¬ (k = 2 ∧ j = 6) → addZoneF σ zc c f t le k j = σ k j := fun k j hk hj => by
    unfold addZoneF
    simp only [sset_at]
    rw [if_neg (by omega), if_neg (by omega), if_neg (by omega), if_neg (by omega), if_neg (by omega)]
  have er : ∀ k, (k < 8 ∨ 14 ≤ k) → k ≠ 2 → addZoneF σ zc c f t le k = σ k := fun k hk h2 => funext fun j => e k j hk (by omega)
  refine ⟨⟨⟨hs, ⟨?_, h1.2⟩, ⟨?_, h2.2⟩, ⟨?_, by omega⟩, fun i hi => ?_, fun i hi => ?_⟩, ⟨fun i hi => ?_, fun i hi => ?_⟩, ⟨?_, h8.2⟩, ⟨?_, h9.2⟩, ⟨?_, h10.2⟩⟩, hG.of (er _ (by omega) (by omega)) (er _ (by omega) (by omega)) (er _ (by omega) (by omega)) (e _ _ (by omega) (by omega)), hR.up fun k hk _ => er k (by omega) (by omega), hJ, hl⟩
  · rw [er 14 (by omega) (by omega)]; exact h1.1
  · rw [er 14 (by omega) (by omega)]; exact h2.1
  · show addZoneF σ zc c f t le 2 6 = nI (zc + 1)
    unfold addZoneF
    simp only [sset_at]
    rw [if_pos ⟨trivial, trivial⟩]; exact nI_1 _
  · rw [er _ (by omega) (by omega)]; exact h4 i hi
  · rw [er _ (by omega) (by omega)]; exact h5 i hi
  · rw [er _ (by omega) (by omega)]; exact h6 i hi
  · rw [er _ (by omega) (by omega)]; exact h7 i hi
  · rw [e 2 4 (by omega) (by omega)]; exact h8.1
  · rw [er 14 (by omega) (by omega)]; exact h9.1
  · rw [er 106 (by omega) (by omega)]; exact h10.1
theorem LW.tower (h : LW σ fc zc nw dc A l) {c : Nat} (b : Bool) : LW (sset σ 4 c (bI b)) fc zc nw dc A l := by
  obtain ⟨hO, hG, hR, hJ, hl⟩ := h
  refine ⟨hO.of fun k j hk => ?_, ⟨?_, ?_, fun t ht => ?_, ?_⟩, hR.up fun k h1 _ => ?_, hJ, hl⟩
  · unfold okd at hk
    rw [sset_at, if_neg (by omega)]
  · rw [sset_ne _ _ _ (by omega)]; exact hG.1
  · rw [sset_ne _ _ _ (by omega)]; exact hG.2.1
  · rw [sset_at]
    by_cases e : t = c
    · rw [if_pos ⟨rfl, e⟩]; exact ⟨b, rfl⟩
    · rw [if_neg (fun x => e x.2)]; exact hG.2.2.1 t ht
  · rw [sset_ne _ _ _ (by omega)]; exact hG.2.2.2
  · rw [sset_ne _ _ _ (by omega)]
/-- a change of one craft that leaves flights as they are -/
theorem JJ.setC {n i : Nat} (h : JJ cc fc n (fun _ => n) A) {c : aC} (hc : CI fc n n i A.F c) (hlk : c.lk = true → (A.C i).lk = true) : JJ cc fc n (fun _ => n) (A.sC i c) := by
  refine ⟨h.nw, fun k hk => ?_, h.f, h.nc, fun hl => h.lk fun k hk => ?_⟩
  · rw [sC_C, sC_F]
    by_cases e : k = i
    · subst e; rw [if_pos rfl]; exact hc
    · rw [if_neg e]; exact h.c k hk
  · have := hl k hk
    rw [sC_C] at this
    by_cases e : k = i
    · subst e; rw [if_pos rfl] at this; exact hlk this
    · rw [if_neg e] at this; exact this
theorem LW.link (h : LW σ fc zc nw dc A l) {i : Nat} (hi : i < 5) : ∃ A', LW (sset σ (14 + 4 + i) 6 (bI false)) fc zc nw dc A' false := by
  obtain ⟨⟨⟨hs, h1, h2, h3, h4, h5⟩, ⟨h6, h7⟩, h8, h9, h10⟩, hG, hR, hJ, hl⟩ := h
  have hc := hR.cr i hi
  have e : ∀ k, k ≠ 14 + 4 + i → sset σ (14 + 4 + i) 6 (bI false) k = σ k := fun k hk => sset_ne _ _ _ hk
  have hC := hJ.c i hi
  refine ⟨A.sC i (((A.C i).hp, (A.C i).hc, (A.C i).bt, (A.C i).ch, false, (A.C i).st, (A.C i).ce, (A.C i).fl, (A.C i).la) : aC), ⟨⟨hs, ⟨?_, h1.2⟩, ⟨?_, h2.2⟩, ⟨?_, h3.2⟩, fun k hk => ?_, fun k hk => ?_⟩, ⟨fun k hk => ?_, fun k hk => ?_⟩, ⟨?_, h8.2⟩, ⟨?_, h9.2⟩, ⟨?_, h10.2⟩⟩, hG.of (e _ (by omega)) (e _ (by omega)) (e _ (by omega)) (by rw [e 2 (by omega)]), ?_, ?_, fun hx => by cases hx⟩
  · rw [e 14 (by omega)]; exact h1.1
  · rw [e 14 (by omega)]; exact h2.1
  · rw [e 2 (by omega)]; exact h3.1
  · by_cases hk2 : k = i
    · subst hk2; exact ⟨false, by rw [sset_at, if_pos ⟨rfl, rfl⟩]⟩
    · rw [e _ (by omega)]; exact h4 k hk
  · rw [e _ (by omega)]; exact h5 k hk
  · rw [e _ (by omega)]; exact h6 k hk
  · rw [e _ (by omega)]; exact h7 k hk
  · rw [e 2 (by omega)]; exact h8.1
  · rw [e 14 (by omega)]; exact h9.1
  · rw [e 106 (by omega)]; exact h10.1
  · exact hR.srC hi ⟨hc.h1, hc.h2, hc.h3, hc.h4, rfl, hc.h7, hc.h8, hc.h9, hc.h11⟩
  · exact hJ.setC ⟨hC.hp, hC.hc, hC.ce, hC.ch, hC.bt, hC.st, hC.lies, hC.down, hC.la, hC.fly, hC.pos⟩ (fun hx => by cases hx)
theorem fetch_eq (r : Nat) : fetchF σ r = srow σ r (upd (upd (σ r) 7 0) 8 (σ r 2)) := by
  unfold fetchF
  simp only [sset, srow_srow, srow_self]
  rfl
theorem LW.fetch (h : LW σ fc zc nw dc A l) {i : Nat} (hi : i < 5) (hd : (A.C i).st = 2) : ∃ A', LW (fetchF σ (14 + 4 + i)) fc zc nw dc A' l := by
  obtain ⟨hO, hG, hR, hJ, hl⟩ := h
  have hc := hR.cr i hi
  have hC := hJ.c i hi
  rw [fetch_eq]
  have e : ∀ k, k ≠ 14 + 4 + i → srow σ (14 + 4 + i) (upd (upd (σ (14 + 4 + i)) 7 0) 8 (σ (14 + 4 + i) 2)) k = σ k := fun k hk => srow_ne _ _ hk
  refine ⟨A.sC i (((A.C i).hp, (A.C i).hc, (A.C i).bt, (A.C i).ch, (A.C i).lk, 0, (A.C i).hc, (A.C i).fl, (A.C i).la) : aC), hO.of fun k j hk => ?_, hG.of (e _ (by omega)) (e _ (by omega)) (e _ (by omega)) (by rw [e 2 (by omega)]), ?_, ?_, fun hx => ⟨fun k hk => ?_, (hl hx).2⟩⟩
  · by_cases hk2 : k = 14 + 4 + i
    · subst hk2
      unfold okd at hk
      have : j = 6 := by omega
      subst this
      rw [srow_self]; rfl
    · rw [e k hk2]
  · refine hR.srC hi ⟨hc.h1, hc.h2, hc.h3, hc.h4, hc.h6, rfl, hc.h2, ?_, hc.h11⟩
    have := hc.h9
    rw [if_neg (by omega)] at this
    exact this
  · have hhc : isPd (A.C i).hc := by rw [hC.hc]; exact isPd_pdN hC.hp
    exact hJ.setC ⟨hC.hp, hC.hc, isPd_lt hhc, hC.ch, hC.bt, Nat.zero_le _, fun _ => hhc, fun hx => absurd (show (0 : Nat) = 2 from hx) (by decide), hC.la, fun hx => absurd (show (0 : Nat) = 1 from hx) (by decide), fun hx => absurd (show (0 : Nat) = 1 from hx) (by decide)⟩ id
  · rw [sC_C]
    by_cases hk2 : k = i
    · subst hk2; rw [if_pos rfl]; exact (hl hx).1 k hk
    · rw [if_neg hk2]; exact (hl hx).1 k hk
theorem LW.withdraw (h : LW σ fc zc nw dc A l) {k : Nat} (hk : k < fc) (h0 : (A.F k).st = 0) : ∃ A', LW (sset σ (14 + 10 + 3 * k) 2 3) fc zc nw dc A' l := by
  obtain ⟨hO, hG, hR, hJ, hl⟩ := h
  have h12 := hR.f12
  have e : ∀ t, t ≠ 14 + 10 + 3 * k → sset σ (14 + 10 + 3 * k) 2 3 t = σ t := fun t ht => sset_ne _ _ _ ht
  have hF := hJ.f k hk
  refine ⟨A.sF k ((A.F k).ws 3), hO.of fun t j ht => ?_, hG.of (e _ (by omega)) (e _ (by omega)) (e _ (by omega)) (by rw [e 2 (by omega)]), hR.fst hk 3 rfl, ⟨hJ.nw, fun i hi => ?_, fun j hj => ?_, ?_, fun hx j hj => ?_⟩, hl⟩
  · unfold okd at ht
    rw [sset_at, if_neg (by omega)]
  · refine (hJ.c i hi).congr fun hs => ?_
    show (A.sF k _).F (A.C i).fl = _
    rw [sF_F, if_neg (fun e => ?_)]
    have := ((hJ.c i hi).fly hs).2.2.1
    rw [e] at this; omega
  · rw [sF_F]
    by_cases hj2 : j = k
    · rw [if_pos hj2]
      exact ⟨hF.cr, hF.ln, hF.rt, hF.adj, hF.last, Nat.le_of_ble_eq_true rfl, hF.sta⟩
    · rw [if_neg hj2]; exact hJ.f j hj
  · exact hJ.nc.sub rfl rfl rfl rfl (fun _ => Or.inl h0)
  · rw [sF_F]
    by_cases hj2 : j = k
    · rw [if_pos hj2]; exact (by decide : (3 : Nat) ≠ 5)
    · rw [if_neg hj2]; exact hJ.lk hx j hj
end Law
