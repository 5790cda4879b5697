/-! ===== a minute ===== -/
section Min
variable {σ : qσ} {cc fc zc n : Nat} {A A0 : aS}
theorem only_gr {σ σ' : qσ} (h : Only 14 σ σ') {k : Nat} (hk : k < 14) (j : Nat) : σ' k j = σ k j := h k j (by rintro (h | h | ⟨i, h⟩ | ⟨i, h⟩) <;> omega)
theorem startL_rs (hn : n < 2 ^ 20) : ∀ (j i : Nat) (σ : qσ) (A : aS), i + j = fc → RS σ cc fc A → P2 cc fc n 0 A0 A → WF σ 14 cc fc zc → ∃ A', RS (startL 14 zc j i σ) cc fc A' ∧ P2 cc fc n 0 A0 A' ∧ A'.ne = A.ne := by
  intro j
  induction j with
  | zero => intro i σ A _ h hp _; exact ⟨A, h, hp, rfl⟩
  | succ j ih =>
    intro i σ A hi h hp hW
    have h12 := h.f12
    obtain ⟨A', a, b, c⟩ := ih (i + 1) _ _ (by omega) (h.start hp.j hn hW (show i < fc by omega)) (hp.start (by omega)) (hW.only (start_only hW (by omega)))
    refine ⟨A', a, b, c.trans ?_⟩
    unfold stA
    split
    · split
      · rfl
      · rfl
    · rfl
theorem mvA_ne (A : aS) (i k : Nat) : (mvA A i k).ne = A.ne := by
  unfold mvA
  split
  · rfl
  · rfl
theorem moveL_rs {w : Nat} (hn : n < 2 ^ 20) (h3 : w ≤ 3) : ∀ (j i : Nat) (σ : qσ) (A : aS), i + j = cc → RS σ cc fc A → P2 cc fc n i A0 A → WF σ 14 cc fc zc → σ 2 8 = nI w → ∃ A', RS (moveL 14 zc j i σ) cc fc A' ∧ P2 cc fc n cc A0 A' ∧ A'.ne = A.ne := by
  intro j
  induction j with
  | zero =>
    intro i σ A hi h hp _ _
    have e : i = cc := by omega
    subst e
    exact ⟨A, h, hp, rfl⟩
  | succ j ih =>
    intro i σ A hi h hp hW hw
    have h6 := h.c6
    have ho := mv1_only (t := i) hW (by omega)
    obtain ⟨k, k1, k7, hk⟩ := h.move hp.j hn hW (show i < cc by omega) (if_neg (Nat.lt_irrefl i)) hw h3
    obtain ⟨A', a, b, c⟩ := ih (i + 1) _ _ (by omega) hk (hp.move (by omega) k1 k7) (hW.only ho) (by rw [only_gr ho (by omega)]; exact hw)
    exact ⟨A', a, b, c.trans (mvA_ne _ _ _)⟩
theorem chargeL_rs (hn : n < 2 ^ 20) (h0 : 0 < n) : ∀ (j i : Nat) (σ : qσ) (A : aS), i + j = cc → RS σ cc fc A → P3 cc fc n i A0 A → ∃ A', RS (chargeL 14 j i σ) cc fc A' ∧ P3 cc fc n cc A0 A' ∧ A'.ne = A.ne := by
  intro j
  induction j with
  | zero =>
    intro i σ A hi h hp
    have e : i = cc := by omega
    subst e
    exact ⟨A, h, hp, rfl⟩
  | succ j ih =>
    intro i σ A hi h hp
    have hi2 : i < cc := by omega
    obtain ⟨A', a, b, c⟩ := ih (i + 1) _ _ (by omega) (h.charge hi2 (by rw [hp.j.nw]; exact hn) (hp.j.c i hi2) hp.j.nw h0) (hp.charge hi2)
    exact ⟨A', a, b, c⟩
theorem pairIn0 {σ : qσ} {s i : Nat} : ∀ (j t : Nat) (a : Int32), (∀ u, t ≤ u → u < t + j → ¬ (σ (s + 4 + i) 7 = 1 ∧ σ (s + 4 + u) 7 = 1 ∧ σ (s + 4 + i) 8 = σ (s + 4 + u) 8)) → pairInL σ s i j t a = a := by
  intro j
  induction j with
  | zero => intro t a _; rfl
  | succ j ih =>
    intro t a h
    have ht := h t (by omega) (by omega)
    have hr := ih (t + 1) a (fun u h1 h2 => h u (by omega) (by omega))
    unfold pairInL
    by_cases c1 : σ (s + 4 + i) 7 = 1
    · rw [if_pos c1]
      by_cases c2 : σ (s + 4 + t) 7 = 1
      · rw [if_pos c2, if_neg (fun c3 => ht ⟨c1, c2, c3⟩)]; exact hr
      · rw [if_neg c2]; exact hr
    · rw [if_neg c1]; exact hr
theorem pair0 {σ : qσ} {s cc : Nat} : ∀ (j i : Nat) (a : Int32), (∀ u v, i ≤ u → u < v → v < i + j → ¬ (σ (s + 4 + u) 7 = 1 ∧ σ (s + 4 + v) 7 = 1 ∧ σ (s + 4 + u) 8 = σ (s + 4 + v) 8)) → pairL σ s cc j i a = a := by
  intro j
  induction j with
  | zero => intro i a _; rfl
  | succ j ih =>
    intro i a h
    unfold pairL
    rw [pairIn0 j (i + 1) a (fun u h1 h2 => h i u (by omega) (by omega) (by omega))]
    exact ih (i + 1) a (fun u v h1 h2 h3 => h u v (by omega) h2 (by omega))
theorem pairIn_nI {σ : qσ} {s i : Nat} : ∀ (j t a : Nat), ∃ b, a ≤ b ∧ b ≤ a + j ∧ pairInL σ s i j t (nI a) = nI b := by
  intro j
  induction j with
  | zero => intro t a; exact ⟨a, by omega, by omega, rfl⟩
  | succ j ih =>
    intro t a
    obtain ⟨b, h1, h2, h3⟩ := ih (t + 1) a
    obtain ⟨b', g1, g2, g3⟩ := ih (t + 1) (a + 1)
    unfold pairInL
    by_cases c1 : σ (s + 4 + i) 7 = 1
    · rw [if_pos c1]
      by_cases c2 : σ (s + 4 + t) 7 = 1
      · rw [if_pos c2]
        by_cases c3 : σ (s + 4 + i) 8 = σ (s + 4 + t) 8
        · rw [if_pos c3, nI_1]; exact ⟨b', by omega, by omega, g3⟩
        · rw [if_neg c3]; exact ⟨b, by omega, by omega, h3⟩
      · rw [if_neg c2]; exact ⟨b, by omega, by omega, h3⟩
    · rw [if_neg c1]; exact ⟨b, by omega, by omega, h3⟩
theorem pair_nI {σ : qσ} {s cc : Nat} (h6 : cc ≤ 6) : ∀ (j i a : Nat), j ≤ cc → ∃ b, a ≤ b ∧ b ≤ a + 6 * j ∧ pairL σ s cc j i (nI a) = nI b := by
  intro j
  induction j with
  | zero => intro i a _; exact ⟨a, by omega, by omega, rfl⟩
  | succ j ih =>
    intro i a hj
    obtain ⟨b, h1, h2, h3⟩ := pairIn_nI (σ := σ) (s := s) (i := i) j (i + 1) a
    obtain ⟨b', g1, g2, g3⟩ := ih (i + 1) b (by omega)
    refine ⟨b', by omega, by omega, ?_⟩
    unfold pairL
    rw [h3]; exact g3
theorem RS.tick (h : RS σ cc fc A) : RS (m2F (m1F σ 14) 14) cc fc (A.nw + 1, A.ne, A.C, A.F) := by
  have h6 := h.c6
  have h12 := h.f12
  have h1 : RS (m1F σ 14) cc fc (A.nw + 1, A.ne, A.C, A.F) := by
    unfold m1F
    refine ⟨h6, h12, ?_, ?_, fun i hi => ?_, fun i hi => ?_⟩
    · rw [sset_at, if_pos ⟨rfl, rfl⟩, h.now]; exact nI_1 _
    · rw [sset_at, if_neg (by omega)]; exact h.near
    · rw [sset_ne _ _ _ (by omega)]; exact h.cr i hi
    · rw [sset_ne _ _ _ (by omega), sset_ne _ _ _ (by omega), sset_ne _ _ _ (by omega)]; exact h.fl i hi
  refine h1.kv fun k j _ _ hk _ _ => ?_
  unfold m2F
  split
  · rw [srow_ne _ _ hk]
  · rfl
theorem JJ.tick (h : JJ cc fc n (fun _ => n) A) : P2 cc fc (n + 1) 0 A (A.nw + 1, A.ne, A.C, A.F) := by
  refine ⟨⟨by show A.nw + 1 = n + 1; rw [h.nw], fun i hi => ?_, h.f, h.nc, h.lk⟩, fun i _ _ => Or.inl rfl, fun i _ e => absurd e (Nat.not_lt_zero i), fun k _ => ⟨rfl, rfl, rfl, rfl, Or.inl rfl⟩⟩
  have c := h.c i hi
  refine ⟨c.hp, c.hc, c.ce, c.ch, c.bt, c.st, c.lies, c.down, Nat.le_succ_of_le c.la, fun s => ?_, fun s s2 => ?_⟩
  · obtain ⟨a, b, d, e⟩ := c.fly s
    exact ⟨a, b, d, Nat.le_succ_of_le e⟩
  · exact c.pos s s2
theorem HC.lk {n : Nat} {c0 c : aC} (h : HC n c0 c) : c.lk = c0.lk := h.1.2.2.2
theorem RS.minute {w : Nat} (h : RS σ cc fc A0) (J : JJ cc fc n (fun _ => n) A0) (hn : n + 1 < 2 ^ 20) (hW : WF σ 14 cc fc zc) (hw : σ 2 8 = nI w) (h3 : w ≤ 3) :
    ∃ A, RS (minuteF σ 14 cc fc zc) cc fc A ∧ P3 cc fc (n + 1) cc A0 A ∧ ((∀ i, i < cc → (A0.C i).lk = true) → A.ne = A0.ne) ∧ ∃ b, b ≤ 36 ∧ A.ne = A0.ne + nI b := by
  have h6 := h.c6
  have h12 := h.f12
  have o2 : Only 14 σ (m2F (m1F σ 14) 14) := m12_only
  have w2 := hW.only o2
  obtain ⟨A3, r3, p3, e3⟩ := startL_rs hn fc 0 _ _ (by omega) h.tick J.tick w2
  have o3 := o2.tr (startL_only fc 0 _ w2 (by omega))
  have w3 := hW.only o3
  obtain ⟨A4, r4, p4, e4⟩ := moveL_rs hn h3 cc 0 _ _ (by omega) r3 p3 w3 (by rw [only_gr o3 (by omega)]; exact hw)
  have r5 : ∀ v : Int32, RS (sset (moveL 14 zc cc 0 (startL 14 zc fc 0 (m2F (m1F σ 14) 14))) 14 7 v) cc fc (A4.nw, v, A4.C, A4.F) := by
    intro v
    refine ⟨h6, h12, ?_, ?_, fun i hi => ?_, fun i hi => ?_⟩
    · rw [sset_at, if_neg (by omega)]; exact r4.now
    · rw [sset_at, if_pos ⟨rfl, rfl⟩]
    · rw [sset_ne _ _ _ (by omega)]; exact r4.cr i hi
    · rw [sset_ne _ _ _ (by omega), sset_ne _ _ _ (by omega), sset_ne _ _ _ (by omega)]; exact r4.fl i hi
  have p5 : ∀ v : Int32, P3 cc fc (n + 1) 0 A0 (A4.nw, v, A4.C, A4.F) := fun v => ⟨⟨p4.p3.j.nw, p4.p3.j.c, p4.p3.j.f, p4.p3.j.nc, p4.p3.j.lk⟩, p4.p3.h1, p4.p3.hc, p4.p3.hf⟩
  obtain ⟨A6, r6, p6, e6⟩ := chargeL_rs (A0 := A0) hn (Nat.succ_pos n) cc 0 _ _ (by omega) (r5 _) (p5 _)
  have e7 : moveL 14 zc cc 0 (startL 14 zc fc 0 (m2F (m1F σ 14) 14)) 14 7 = A0.ne := by
    rw [r4.near, e4, e3]
  refine ⟨A6, r6, p6, fun hl => ?_, ?_⟩
  rotate_left
  · obtain ⟨b, b1, b2, b3⟩ := pair_nI (σ := moveL 14 zc cc 0 (startL 14 zc fc 0 (m2F (m1F σ 14) 14))) (s := 14) h6 cc 0 0 (Nat.le_refl _)
    refine ⟨b, by omega, ?_⟩
    rw [e6]
    show moveL 14 zc cc 0 (startL 14 zc fc 0 (m2F (m1F σ 14) 14)) 14 7 + pairsF (moveL 14 zc cc 0 (startL 14 zc fc 0 (m2F (m1F σ 14) 14))) 14 cc = A0.ne + nI b
    rw [e7, ← b3]; rfl
  rw [e6]
  show moveL 14 zc cc 0 (startL 14 zc fc 0 (m2F (m1F σ 14) 14)) 14 7 + pairsF (moveL 14 zc cc 0 (startL 14 zc fc 0 (m2F (m1F σ 14) 14))) 14 cc = A0.ne
  have e8 : pairsF (moveL 14 zc cc 0 (startL 14 zc fc 0 (m2F (m1F σ 14) 14))) 14 cc = 0 := by
    unfold pairsF
    refine pair0 cc 0 0 fun u v _ huv hv => ?_
    have hl4 : ∀ i, i < cc → (A4.C i).lk = true := fun i hi => by rw [(p4.hc i hi hi).lk]; exact hl i hi
    have nn := no_near p4.j (fun i hi => if_pos hi) hl4 (show u < cc by omega) (show v < cc by omega) (by omega)
    have cu := r4.cr u (by omega)
    have cv := r4.cr v (by omega)
    have ju := p4.j.c u (by omega)
    have jv := p4.j.c v (by omega)
    have b1 := ju.st
    have b2 := jv.st
    have b3 := ju.ce
    have b4 := jv.ce
    rw [cu.h7, cv.h7, cu.h8, cv.h8]
    rintro ⟨x, y, z⟩
    exact nn ⟨(nI_eq1 (by omega)).mp x, (nI_eq1 (by omega)).mp y, (nI_eq (by omega) (by omega)).mp z⟩
  rw [e7, e8, Int32.add_zero]
end Min
