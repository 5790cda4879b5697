/-! ===== a move, and what lies is charged ===== -/
theorem farN_self (a : Nat) : farN a a = 0 := by unfold farN; omega
theorem lnd_mv {n fc i cc : Nat} {F : Nat → aF} {c c1 : aC} {f f1 : aF} (hC : CI fc n (n - 1) i F c) (h1 : c.st = 1) (ff : FI cc f) (sta : 2 ≤ n - f.sta) (hst : f.st = 1 ∨ f.st = 5) (ef : f1 = f.ws f1.st)
    (hs1 : (f1.st = f.st ∧ (c.lk = true ∨ f.st = 5)) ∨ (f.st = 1 ∧ f1.st = 5 ∧ c.lk = false)) (ec : c1.hp = c.hp ∧ c1.hc = c.hc ∧ c1.bt = c.bt ∧ c1.lk = c.lk ∧ c1.st = c.st ∧ c1.fl = c.fl ∧ c1.la = c.la)
    (hce : c1.ce < 25) (hch : (c1.ce = c.ce ∧ c1.ch = c.ch) ∨ (c1.ce ≠ c.ce ∧ farN c.ce c1.ce ≤ 1 ∧ c1.ch + 1 ≤ c.ch ∧ c.ch ≤ c1.ch + 7))
    (hp : f1.st = 1 → (n - f.sta) / 2 < f.ln ∧ f.rt ((n - f.sta) / 2) = c1.ce) : MV n c f (lndP n c1 f1 ((n - f.sta) / 2)).1 (lndP n c1 f1 ((n - f.sta) / 2)).2 := by
  obtain ⟨e1, e2, e3, e4, e5, e6, e7⟩ := ec
  have l1 : f1.ln = f.ln := by rw [ef]
  have l2 : f1.sta = f.sta := by rw [ef]
  have l3 : f1.rt = f.rt := by rw [ef]
  have hchb := hC.ch
  have hcl := hC.la
  have hn : 1 ≤ n := by omega
  have k1 : f1.st = f.st ∨ (f.st = 1 ∧ (f1.st = 2 ∨ f1.st = 5 ∨ f1.st = 6)) ∨ (f.st = 5 ∧ f1.st = 6) := by
    rcases hs1 with ⟨a, -⟩ | ⟨a, b, -⟩
    · exact Or.inl a
    · exact Or.inr (Or.inl ⟨a, Or.inr (Or.inl b)⟩)
  have klk : c.lk = true → f.st = 1 → f1.st ≠ 5 := by
    intro a b
    rcases hs1 with ⟨d, -⟩ | ⟨-, -, d⟩
    · omega
    · rw [a] at d; cases d
  have hcc : HC n c c1 := by
    refine ⟨⟨e1, e2, e3, e4⟩, ?_⟩
    rcases hch with ⟨a, b⟩ | ⟨a, b, d, e⟩
    · exact Or.inl ⟨e5, a, b, e7⟩
    · exact Or.inr (Or.inr (Or.inl ⟨h1, by omega, fun q => by omega, a, b, d, e⟩))
  have hcl1 : HC n c (landA n c1) := by
    refine ⟨⟨e1, e2, e3, e4⟩, ?_⟩
    rcases hch with ⟨a, b⟩ | ⟨a, b, d, e⟩
    · exact Or.inr (Or.inr (Or.inr (Or.inl ⟨h1, (by decide : (0 : Nat) ≠ 2), fun _ => rfl, a, b⟩)))
    · exact Or.inr (Or.inr (Or.inl ⟨h1, (by decide : (0 : Nat) ≠ 2), fun _ => rfl, a, b, d, e⟩))
  have hb : c1.ch ≤ c1.bt := by rw [e3]; omega
  unfold lndP
  by_cases g : f1.st = 5
  · rw [if_pos g]
    by_cases g2 : c1.ce = c1.hc
    · rw [if_pos g2]
      have pd : isPd c1.ce := by rw [g2, e2, hC.hc]; exact isPd_pdN hC.hp
      exact ⟨ef, k1, hcl1, hce, hb, Nat.zero_le _, fun _ => pd, fun q => absurd (show (0 : Nat) = 2 from q) (by decide), Nat.le_refl _, e6, fun q => absurd (show (0 : Nat) = 1 from q) (by decide), fun q => absurd (show (0 : Nat) = 1 from q) (by decide), klk⟩
    · rw [if_neg g2]
      exact ⟨ef, k1, hcc, hce, hb, by show c1.st ≤ 2; omega, fun q => by have : c1.st = 0 := q; omega, fun q => by have : c1.st = 2 := q; omega, by show c1.la ≤ n; omega, e6, fun _ => Or.inr g, fun _ q => by have : f1.st = 1 := q; omega, klk⟩
  · rw [if_neg g]
    have g1 : f1.st = 1 := by omega
    obtain ⟨p1, p2⟩ := hp g1
    by_cases g2 : (n - f.sta) / 2 = f1.ln - 1
    · rw [if_pos g2]
      have pd : isPd c1.ce := by rw [← p2, g2, l1]; exact ff.last
      have fs : f.st = 1 := by omega
      refine ⟨?_, Or.inr (Or.inl ⟨fs, Or.inl rfl⟩), hcl1, hce, hb, Nat.zero_le _, fun _ => pd, fun q => absurd (show (0 : Nat) = 2 from q) (by decide), Nat.le_refl _, e6, fun q => absurd (show (0 : Nat) = 1 from q) (by decide), fun q => absurd (show (0 : Nat) = 1 from q) (by decide), fun _ _ => (by decide : (2 : Nat) ≠ 5)⟩
      show (f1.ws 2) = (f.ws 2)
      rw [ef]
    · rw [if_neg g2]
      refine ⟨ef, k1, hcc, hce, hb, by show c1.st ≤ 2; omega, fun q => by have : c1.st = 0 := q; omega, fun q => by have : c1.st = 2 := q; omega, by show c1.la ≤ n; omega, e6, fun _ => Or.inl g1, fun _ _ => ?_, klk⟩
      show f1.rt ((n - f1.sta) / 2) = c1.ce ∧ (n - f1.sta) / 2 + 1 < f1.ln
      rw [l1, l2, l3]
      exact ⟨p2, by omega⟩
theorem mv_ok {n k fc i cc : Nat} {F : Nat → aF} {c : aC} (hC : CI fc n (n - 1) i F c) (h1 : c.st = 1) (ff : FI cc (F c.fl)) (sta : 2 ≤ n - (F c.fl).sta) (ev : (n - (F c.fl).sta) % 2 = 0) (k1 : 1 ≤ k) (k7 : k ≤ 7) : MV n c (F c.fl) (mvP n k c (F c.fl)).1 (mvP n k c (F c.fl)).2 := by
  obtain ⟨f, hf⟩ : ∃ f, f = F c.fl := ⟨_, rfl⟩
  have hst := (hC.fly h1).2.2.1
  have hpos := hC.pos h1
  rw [← hf] at ff sta ev hst hpos ⊢
  have hhc : c.hc < 25 := by rw [hC.hc]; exact isPd_lt (isPd_pdN hC.hp)
  have hce := hC.ce
  have hch := hC.ch
  have hla := hC.la
  unfold mvP mvN
  obtain ⟨f1, ef1⟩ : ∃ f1 : aF, f1 = (if f.st = 1 ∧ c.lk = false then (f.ws 5) else f) := ⟨_, rfl⟩
  simp only [← ef1]
  have ef : f1 = f.ws f1.st := by
    rw [ef1]
    by_cases g : f.st = 1 ∧ c.lk = false
    · rw [if_pos g]
    · rw [if_neg g]
  have hs1 : (f1.st = f.st ∧ (c.lk = true ∨ f.st = 5)) ∨ (f.st = 1 ∧ f1.st = 5 ∧ c.lk = false) := by
    rw [ef1]
    by_cases g : f.st = 1 ∧ c.lk = false
    · rw [if_pos g]; exact Or.inr ⟨g.1, rfl, g.2⟩
    · rw [if_neg g]
      refine Or.inl ⟨rfl, ?_⟩
      rcases hst with a | a
      · cases e : c.lk
        · exact absurd ⟨a, e⟩ g
        · exact Or.inl rfl
      · exact Or.inr a
  have l1 : f1.rt = f.rt := by rw [ef]
  obtain ⟨nx, enx⟩ : ∃ nx, nx = (if f1.st = 5 then homeN c else f1.rt ((n - f.sta) / 2)) := ⟨_, rfl⟩
  rw [← enx]
  have pl : f1.st ≠ 5 → (n - f.sta) / 2 < f.ln ∧ nx = f.rt ((n - f.sta) / 2) ∧ farN c.ce nx ≤ 1 := by
    intro g
    rw [if_neg g, l1] at enx
    have g1 : f.st = 1 := by omega
    obtain ⟨p1, p2⟩ := hpos g1
    have e : (n - f.sta) / 2 = (n - 1 - f.sta) / 2 + 1 := by omega
    refine ⟨by omega, enx, ?_⟩
    rw [enx, ← p1, e]
    exact ff.adj _ p2
  have hnx : nx < 25 := by
    by_cases g : f1.st = 5
    · rw [enx, if_pos g]; exact home_lt hce hhc
    · rw [(pl g).2.1]; exact ff.rt _ (pl g).1
  have hfar : farN c.ce nx ≤ 1 := by
    by_cases g : f1.st = 5
    · rw [enx, if_pos g]; exact home_far hce hhc
    · exact (pl g).2.2
  by_cases g : nx = c.ce
  · rw [if_pos g]
    exact lnd_mv hC h1 ff sta hst ef hs1 ⟨rfl, rfl, rfl, rfl, rfl, rfl, rfl⟩ hce (Or.inl ⟨rfl, rfl⟩) (fun q => ⟨(pl (by omega)).1, by rw [← (pl (by omega)).2.1]; exact g⟩)
  · rw [if_neg g]
    by_cases g2 : k ≤ c.ch
    · rw [if_pos g2]
      refine lnd_mv (c1 := (c.to (c.ch - k) nx)) hC h1 ff sta hst ef hs1 ⟨rfl, rfl, rfl, rfl, rfl, rfl, rfl⟩ hnx (Or.inr ⟨g, hfar, ?_, ?_⟩) (fun q => ⟨(pl (by omega)).1, (pl (by omega)).2.1.symm⟩)
      · show c.ch - k + 1 ≤ c.ch; omega
      · show c.ch ≤ c.ch - k + 7; omega
    · rw [if_neg g2]
      refine ⟨?_, ?_, ⟨⟨rfl, rfl, rfl, rfl⟩, Or.inr (Or.inr (Or.inr (Or.inr ⟨h1, rfl, rfl, rfl⟩)))⟩, hce, Nat.zero_le _, Nat.le_refl _, fun q => absurd (show (2 : Nat) = 0 from q) (by decide), fun _ => rfl, hla, rfl, fun q => absurd (show (2 : Nat) = 1 from q) (by decide), fun q => absurd (show (2 : Nat) = 1 from q) (by decide), fun _ _ => (by decide : (6 : Nat) ≠ 5)⟩
      · show (f1.ws 6) = (f.ws 6)
        rw [ef]
      · rcases hst with a | a
        · exact Or.inr (Or.inl ⟨a, Or.inr (Or.inr rfl)⟩)
        · exact Or.inr (Or.inr ⟨a, rfl⟩)
theorem HF1.mono {n q q' : Nat} {f0 f : aF} (h : HF1 n q f0 f) (hq : q ≤ q') : HF1 n q' f0 f := ⟨h.cr, h.sta, h.ln, h.rt, by
  rcases h.st with a | a | ⟨a, b⟩
  · exact Or.inl a
  · exact Or.inr (Or.inl a)
  · exact Or.inr (Or.inr ⟨by omega, b⟩)⟩
theorem H1.hc {n : Nat} {F : Nat → aF} {c0 c : aC} (h : H1 n F c0 c) : HC n c0 c := by
  rcases h with rfl | ⟨h1, h2, h3, -⟩
  · exact ⟨⟨rfl, rfl, rfl, rfl⟩, Or.inl ⟨rfl, rfl, rfl, rfl⟩⟩
  · rw [h3]
    exact ⟨⟨rfl, rfl, rfl, rfl⟩, Or.inr (Or.inl ⟨h1, rfl, rfl, by show c0.ch - 2 + 2 = c0.ch; omega⟩)⟩
theorem P2.move {cc fc n q k : Nat} {A0 A : aS} (h : P2 cc fc n q A0 A) (hq : q < cc) (k1 : 1 ≤ k) (k7 : k ≤ 7) : P2 cc fc n (q + 1) A0 (mvA A q k) := by
  have hn := h.j.nw
  have hC := h.j.c q hq
  have hτ : (if q < q then n else n - 1) = n - 1 := if_neg (Nat.lt_irrefl q)
  replace hC : CI fc n (if q < q then n else n - 1) q A.F (A.C q) := hC
  rw [hτ] at hC
  have tt : ∀ i, i ≠ q → (if i < q + 1 then n else n - 1) = (if i < q then n else n - 1) := by
    intro i hi
    by_cases e : i < q
    · rw [if_pos e, if_pos (by omega)]
    · rw [if_neg e, if_neg (by omega)]
  have tq : (if q < q + 1 then n else n - 1) = n := if_pos (by omega)
  unfold mvA
  by_cases g : (A.C q).st = 1 ∧ 2 ≤ A.nw - (A.F (A.C q).fl).sta ∧ (A.nw - (A.F (A.C q).fl).sta) % 2 = 0
  · rw [if_pos g]
    obtain ⟨g1, g2, g3⟩ := g
    rw [hn] at g2 g3 ⊢
    obtain ⟨y1, y2, y3, y4⟩ := hC.fly g1
    have hF := h.j.f _ y1
    have hM := mv_ok hC g1 hF g2 g3 k1 k7
    obtain ⟨c', hc'⟩ : ∃ c', c' = (mvP n k (A.C q) (A.F (A.C q).fl)).1 := ⟨_, rfl⟩
    obtain ⟨f', hf'⟩ : ∃ f', f' = (mvP n k (A.C q) (A.F (A.C q).fl)).2 := ⟨_, rfl⟩
    rw [← hc', ← hf'] at hM ⊢
    obtain ⟨l, hl⟩ : ∃ l, l = (A.C q).fl := ⟨_, rfl⟩
    rw [← hl] at hM y1 y2 y3 y4 hF g2 g3 ⊢
    have z1 : f'.cr = (A.F l).cr := by rw [hM.eq]
    have z2 : f'.sta = (A.F l).sta := by rw [hM.eq]
    have z3 : f'.ln = (A.F l).ln := by rw [hM.eq]
    have z4 : f'.rt = (A.F l).rt := by rw [hM.eq]
    have hcq : A.C q = A0.C q := by
      rcases h.h1 q hq (Nat.le_refl _) with e | ⟨-, -, -, e⟩
      · exact e
      · rw [← hl] at e; omega
    have ne : ∀ i, i < cc → i ≠ q → (A.C i).st = 1 → (A.C i).fl ≠ l := fun i hi hiq hs e => by
      have := ((h.j.c i hi).fly hs).2.1
      rw [e] at this; omega
    have sta' : ∀ j, ((A.sF l f').F j).sta = (A.F j).sta := sF_sta z2
    refine ⟨⟨hn, fun i hi => ?_, fun j hj => ?_, ?_, fun hl2 j hj => ?_⟩, fun i hi hqi => ?_, fun i hi hiq => ?_, fun j hj => ?_⟩
    · rw [sC_C, sC_F]
      by_cases hi2 : i = q
      · subst hi2
        rw [if_pos rfl]
        simp only [tq]
        have el : (A.sF l f').F c'.fl = f' := by rw [sF_F, hM.fl, ← hl, if_pos rfl]
        refine ⟨by rw [hM.hc.1.1]; exact hC.hp, by rw [hM.hc.1.1, hM.hc.1.2.1]; exact hC.hc, hM.ce, hM.ch, by rw [hM.hc.1.2.2.1]; exact hC.bt, hM.ss, hM.lies, hM.down, hM.la, fun s => ?_, fun s s2 => ?_⟩
        · rw [el, hM.fl, ← hl]
          exact ⟨y1, by rw [z1]; exact y2, hM.fly s, by rw [z2]; exact y4⟩
        · rw [el] at s2 ⊢; exact hM.pos s s2
      · rw [if_neg hi2]
        simp only [tt i hi2]
        refine (h.j.c i hi).congr fun hs => ?_
        rw [sF_F, if_neg (ne i hi hi2 hs)]
    · rw [sC_F, sF_F]
      by_cases hj2 : j = l
      · rw [if_pos hj2, hM.eq]
        refine ⟨hF.cr, hF.ln, hF.rt, hF.adj, hF.last, ?_, hF.sta⟩
        show f'.st ≤ 6
        rcases hM.st with a | ⟨-, a⟩ | ⟨-, a⟩ <;> omega
      · rw [if_neg hj2]; exact h.j.f j hj
    · refine h.j.nc.sub z1 z2 z3 z4 (fun a => ?_)
      have e := hM.st
      unfold ahd at a ⊢
      omega
    · rw [sC_F, sF_F]
      have hal : ∀ i, i < cc → (A.C i).lk = true := fun i hi => by
        have := hl2 i hi
        rw [sC_C] at this
        by_cases hi2 : i = q
        · subst hi2
          rw [if_pos rfl] at this
          rw [← hM.hc.1.2.2.2]; exact this
        · rw [if_neg hi2] at this; exact this
      by_cases hj2 : j = l
      · rw [if_pos hj2]
        have := h.j.lk hal l y1
        exact hM.lk (hal q hq) (by omega)
      · rw [if_neg hj2]
        exact h.j.lk hal j hj
    · rw [sC_C, sC_F, if_neg (by omega)]
      exact (h.h1 i hi (by omega)).congr (sta' _)
    · rw [sC_C]
      by_cases hi2 : i = q
      · subst hi2; rw [if_pos rfl, ← hcq]; exact hM.hc
      · rw [if_neg hi2]; exact h.hc i hi (by omega)
    · rw [sC_F, sF_F]
      by_cases hj2 : j = l
      · subst hj2
        rw [if_pos rfl]
        have hf := h.hf j hj
        refine ⟨z1.trans hf.cr, z2.trans hf.sta, z3.trans hf.ln, z4.trans hf.rt, ?_⟩
        have e0 : (A.F j).st = (A0.F j).st := by
          rcases hf.st with a | ⟨-, -, a⟩ | ⟨a, -⟩
          · exact a
          · omega
          · omega
        rw [← e0]
        rcases hM.st with a | a | a
        · exact Or.inl a
        · exact Or.inr (Or.inr ⟨by omega, Or.inl a⟩)
        · exact Or.inr (Or.inr ⟨by omega, Or.inr a⟩)
      · rw [if_neg hj2]; exact (h.hf j hj).mono (by omega)
  · rw [if_neg g]
    refine ⟨⟨hn, fun i hi => ?_, h.j.f, h.j.nc, h.j.lk⟩, fun i hi hqi => h.h1 i hi (by omega), fun i hi hiq => ?_, fun j hj => (h.hf j hj).mono (by omega)⟩
    · by_cases hi2 : i = q
      · subst hi2
        simp only [tq]
        refine ⟨hC.hp, hC.hc, hC.ce, hC.ch, hC.bt, hC.st, hC.lies, hC.down, hC.la, hC.fly, fun s s2 => ?_⟩
        have e := hC.pos s s2
        have y4 := (hC.fly s).2.2.2
        have eq : (n - (A.F (A.C i).fl).sta) / 2 = (n - 1 - (A.F (A.C i).fl).sta) / 2 := by
          rw [hn] at g
          have g' : ¬ (2 ≤ n - (A.F (A.C i).fl).sta ∧ (n - (A.F (A.C i).fl).sta) % 2 = 0) := fun w => g ⟨s, w⟩
          omega
        rw [eq]; exact e
      · simp only [tt i hi2]; exact h.j.c i hi
    · by_cases hi2 : i = q
      · subst hi2; exact (h.h1 i hi (Nat.le_refl _)).hc
      · exact h.hc i hi (by omega)
/-! charging -/
def chA (n : Nat) (c : aC) : aC := if c.st = 0 ∧ c.la ≠ n then c.wc (if c.ch + 3 < c.bt then c.ch + 3 else c.bt) else c
theorem CI.charge {fc n i : Nat} {F : Nat → aF} {c : aC} (h : CI fc n n i F c) : CI fc n n i F (chA n c) := by
  unfold chA
  by_cases g : c.st = 0 ∧ c.la ≠ n
  · rw [if_pos g]
    refine ⟨h.hp, h.hc, h.ce, ?_, h.bt, h.st, h.lies, fun e => ?_, h.la, h.fly, h.pos⟩
    · show (if c.ch + 3 < c.bt then c.ch + 3 else c.bt) ≤ c.bt
      by_cases e : c.ch + 3 < c.bt
      · rw [if_pos e]; omega
      · rw [if_neg e]; exact Nat.le_refl _
    · have : c.st = 2 := e
      omega
  · rw [if_neg g]; exact h
theorem chA_fl {n : Nat} {c : aC} : (chA n c).st = c.st ∧ (chA n c).lk = c.lk ∧ (chA n c).ce = c.ce := by
  unfold chA
  by_cases g : c.st = 0 ∧ c.la ≠ n
  · rw [if_pos g]; exact ⟨rfl, rfl, rfl⟩
  · rw [if_neg g]; exact ⟨rfl, rfl, rfl⟩
abbrev P3 (cc fc n q : Nat) (A0 A : aS) : Prop :=
  (JJ cc fc n (fun _ => n) A) ∧ (∀ i, i < cc → q ≤ i → HC n (A0.C i) (A.C i)) ∧ (∀ i, i < cc → i < q → ∃ c, HC n (A0.C i) c ∧ A.C i = chA n c) ∧ (∀ k, k < fc → HF1 n cc (A0.F k) (A.F k))
theorem P3.j {cc fc n q : Nat} {A0 A : aS} (h : P3 cc fc n q A0 A) : JJ cc fc n (fun _ => n) A := h.1
theorem P3.h1 {cc fc n q : Nat} {A0 A : aS} (h : P3 cc fc n q A0 A) : ∀ i, i < cc → q ≤ i → HC n (A0.C i) (A.C i) := h.2.1
theorem P3.hc {cc fc n q : Nat} {A0 A : aS} (h : P3 cc fc n q A0 A) : ∀ i, i < cc → i < q → ∃ c, HC n (A0.C i) c ∧ A.C i = chA n c := h.2.2.1
theorem P3.hf {cc fc n q : Nat} {A0 A : aS} (h : P3 cc fc n q A0 A) : ∀ k, k < fc → HF1 n cc (A0.F k) (A.F k) := h.2.2.2
theorem P3.charge {cc fc n q : Nat} {A0 A : aS} (h : P3 cc fc n q A0 A) (hq : q < cc) : P3 cc fc n (q + 1) A0 (A.sC q (chA n (A.C q))) := by
  refine ⟨⟨h.j.nw, fun i hi => ?_, h.j.f, h.j.nc, fun hl => h.j.lk fun i hi => ?_⟩, fun i hi hqi => ?_, fun i hi hiq => ?_, h.hf⟩
  · rw [sC_C, sC_F]
    by_cases hi2 : i = q
    · subst hi2; rw [if_pos rfl]; exact (h.j.c i hi).charge
    · rw [if_neg hi2]; exact h.j.c i hi
  · have := hl i hi
    rw [sC_C] at this
    by_cases hi2 : i = q
    · subst hi2; rw [if_pos rfl, chA_fl.2.1] at this; exact this
    · rw [if_neg hi2] at this; exact this
  · rw [sC_C, if_neg (by omega)]; exact h.h1 i hi (by omega)
  · rw [sC_C]
    by_cases hi2 : i = q
    · subst hi2; rw [if_pos rfl]; exact ⟨A.C i, h.h1 i hi (Nat.le_refl _), rfl⟩
    · rw [if_neg hi2]; exact h.hc i hi (by omega)
theorem P2.p3 {cc fc n : Nat} {A0 A : aS} (h : P2 cc fc n cc A0 A) : P3 cc fc n 0 A0 A :=
  ⟨⟨h.j.nw, fun i hi => by have := h.j.c i hi; simp only [if_pos hi] at this; exact this, h.j.f, h.j.nc, h.j.lk⟩, fun i hi _ => h.hc i hi hi, fun i _ e => absurd e (Nat.not_lt_zero i), h.hf⟩
/-- nobody with its link is near another one -/
theorem no_near {cc fc n : Nat} {τ : Nat → Nat} {A : aS} (h : JJ cc fc n τ A) (hτ : ∀ i, i < cc → τ i = n) (hl : ∀ i, i < cc → (A.C i).lk = true) {i k : Nat} (hi : i < cc) (hk : k < cc) (hik : i ≠ k) : ¬ ((A.C i).st = 1 ∧ (A.C k).st = 1 ∧ (A.C i).ce = (A.C k).ce) := by
  rintro ⟨a, b, e⟩
  have ci := h.c i hi
  have ck := h.c k hk
  rw [hτ i hi] at ci
  rw [hτ k hk] at ck
  obtain ⟨i1, i2, i3, i4⟩ := ci.fly a
  obtain ⟨k1, k2, k3, k4⟩ := ck.fly b
  have ni := h.lk hl _ i1
  have nk := h.lk hl _ k1
  obtain ⟨p1, p2⟩ := ci.pos a (by omega)
  obtain ⟨q1, q2⟩ := ck.pos b (by omega)
  refine h.nc _ _ i1 k1 (fun x => by rw [x] at i2; omega) (Or.inr (by omega)) (Or.inr (by omega)) (by omega) ⟨_, _, by omega, by omega, p1.trans (e.trans q1.symm), ?_, ?_⟩ <;> omega
