theorem q_self (vm : Vm) (c : ClassId) : vm.assignable c c = true := by
  show Vm.assignableAux vm (255 + 1) c c = true
  rw [Vm.assignableAux]
  simp only [beq_self_eq_true, Bool.true_or]
section QNew
variable {z : qZ} {k : Nat} {y : qY} {pc : Nat} {Lc st : List Value} {M : qM} {n bc bs : Nat} {Q : qQ}
theorem qR_push {D : va_G} {cA : Nat → ClassId} {b B : Nat} {H H1 : Heap} {e : qE} (hR : qR D cA b B M n H) (z1 : H1.size = H.size + 1) (o1 : ∀ q, q < H.size → H1[q]? = H[q]?) (he : va_at D vwCl (qad b B (n + 1), qe (qad b B) cA e) H1) : qR D cA b B (qset M (n + 1) e) (n + 1) H1 := by
  refine ⟨?_, by rw [z1, hR.2]; omega⟩
  rw [← qw_push]
  refine (hR.1.kept (fun k x hx => o1 x.1 (hR.1 k x hx).lt)).app (fun k x hx => ?_)
  have hz : k < 1 := (List.getElem?_eq_some_iff.mp hx).1
  rw [show k = 0 by omega] at hx
  cases hx
  exact he
theorem qS_push {A : Nat → Prop} {H0 H H1 : Heap} {locs : List Loc} (hS : va_S A H0 H locs) (z1 : H1.size = H.size + 1) (o1 : ∀ q, q < H.size → H1[q]? = H[q]?) : va_S A H0 H1 locs :=
  ⟨Nat.le_trans hS.1 (by omega), fun x h1 h2 => (o1 x (Nat.lt_of_lt_of_le h1 hS.1)).trans (hS.2.1 x h1 h2), hS.2.2⟩
theorem EV_new {idx ci N : Nat} {Cn : String} {T : u_T} {fs : List Value} (hd : decode y.2.1 pc = .ok (.new idx, 3)) (hc : vwCl[ci]? = some (Cn, T, N)) (hco : qcok ci) (hlk : Cond.classLink y.1.cls idx Cn ∈ qTBL) (hin : Cond.instantiable Cn N ∈ qTBL) (hini : Cond.initialized Cn ∈ qTBL)
    (hfs : ∀ j, j < N → ∀ ty, parseFieldDescriptor (T j).2.2.1 = some ty → ∀ f : Nat → Nat, defaultValue ty = vp_V (fs.map (qv f)) j)
    (kk : EV z k y (pc + 3) Lc (.ref (n + 1) :: st) (qset M (n + 1) (.inr (ci, fs))) (n + 1) bc bs Q) : EV z k y pc Lc st M n (bc + 1) (bs + N) Q := by
  intro p l e R s m args below meth c D cA b B tc ts Qf C H locs cells slots ls h1 h2 hR hS hl9
  obtain ⟨hin1, ⟨ty0, hty0⟩, hnm⟩ := hco Cn T N hc
  have hKn := C.2.2.2.2.2.2.1.1.1 ci _ hc
  have hb1 := C.2.2.2.2.2.2.2.2.2.1
  refine W.newcK C.1 C.2.1 C.2.2.2.1 (C.2.2.2.2.2.1 _ hlk) (C.2.2.2.2.2.1 _ hin) (C.2.2.2.2.2.1 _ hini) rfl hd (by omega) (by omega) hKn.2.1 rfl fun H1 kC hkC e1 z1 o1 => ?_
  have hsz : H.size = qad b B (n + 1) := hR.2
  rw [hsz]
  refine kk p l e R s m args below meth c D cA b B tc ts Qf C H1 locs (cells + 1) (slots + N) ls (by omega) (by omega) (qR_push hR z1 o1 ?_) (qS_push hS z1 o1) hl9
  rw [hsz] at e1
  exact ⟨_, hc, (u_born ty0 C.2.2.2.2.2.1 hin1 hKn hkC e1 hty0).to (fun j hj => hfs j hj (ty0 j) (hty0 j hj) (qad b B))⟩
theorem EV_newarr {atype : ArrayType} {t : Nat} {ty : FieldType} {a0 : vp_A} {cnt : Int32} {len : Nat} (hd : decode y.2.1 pc = .ok (.newarray atype, 2)) (hty : newarray.typeOf atype = ty) (hw : Cond.arrayClass ty ∈ qTBL) (ht : ∀ cA : Nat → ClassId, (qT cA)[t]? = some (cA t, ty)) (hra : ∀ (U : State) (c : ClassId), va_RA U c ty → U.vm.findClass ("[" ++ ty.toString) = some c) (ha : ∀ (f : Nat → Nat) (cA : ClassId), vp_cell cA (qa f a0) = arrV cA len (fun _ => defaultValue ty)) (hn : ¬ cnt < 0) (hN : cnt.toNatClampNeg = len) (hbytes : len * componentBytes ty ≤ 536870912)
    (kk : EV z k y (pc + 2) Lc (.ref (n + 1) :: st) (qset M (n + 1) (.inl (t, a0))) (n + 1) bc bs Q) : EV z k y pc Lc (.int cnt :: st) M n (bc + 1) (bs + len) Q := by
  intro p l e R s m args below meth c D cA b B tc ts Qf C H locs cells slots ls h1 h2 hR hS hl9
  subst hty
  have hb1 := C.2.2.2.2.2.2.2.2.2.1
  refine va_newaK C.1 C.2.1 (C.2.2.2.2.2.1 _ hw) rfl hd rfl hn hN hbytes (by omega) (by omega) rfl fun H1 cA' e1 z1 o1 hAr hNm => ?_
  have hcA : cA' = cA t := Option.some.inj (hNm.symm.trans (hra s _ (C.2.2.2.2.2.2.1.1.2 t _ (ht cA)).2))
  subst hcA
  have hsz : H.size = qad b B (n + 1) := hR.2
  rw [hsz]
  refine kk p l e R s m args below meth c D cA b B tc ts Qf C H1 locs (cells + 1) (slots + len) ls (by omega) (by omega) (qR_push hR z1 o1 ?_) (qS_push hS z1 o1) hl9
  rw [hsz] at e1
  show H1[_]? = some (vp_cell _ _)
  rw [ha]
  exact e1
theorem q_rep (cA : ClassId) (len : Nat) (f : Nat → Nat) : vp_cell cA (qa f (len, .inr (.inr (.inr (.inr (fun _ => none)))))) = { cls := cA, slots := Array.replicate len .null, vm := .none } := by
  have h : (arrV cA len (fun _ => Value.null)) = { cls := cA, slots := Array.replicate len .null, vm := .none } := by first | exact (arrV_new cA len .null).symm | exact arrV_new cA len .null | rw [arrV_new] | rw [← arrV_new]
  rw [← h]
  rfl
theorem EV_anew {idx t : Nat} {Cn : String} {cnt : Int32} {len : Nat} (hd : decode y.2.1 pc = .ok (.anewarray idx, 3)) (hlk : Cond.classLink y.1.cls idx Cn ∈ qTBL) (how : ∀ (A : Array Value) (U : State), (∀ w ∈ qTBL, w.before A U = true) → (Cond.arrayOver (.object Cn)).before A U = true) (ht : ∀ cA : Nat → ClassId, (qT cA)[t]? = some (cA t, .object Cn)) (hn : ¬ cnt < 0) (hN : cnt.toNatClampNeg = len) (hbytes : len * 4 ≤ 536870912)
    (kk : EV z k y (pc + 3) Lc (.ref (n + 1) :: st) (qset M (n + 1) (.inl (t, len, .inr (.inr (.inr (.inr (fun _ => none))))))) (n + 1) bc bs Q) : EV z k y pc Lc (.int cnt :: st) M n (bc + 1) (bs + len) Q := by
  intro p l e R s m args below meth c D cA b B tc ts Qf C H locs cells slots ls h1 h2 hR hS hl9
  have hb1 := C.2.2.2.2.2.2.2.2.2.1
  subst hN
  refine W.anew C.1 C.2.1 C.2.2.2.1 (C.2.2.2.2.2.1 _ hlk) (how args s C.2.2.2.2.2.1) rfl hd rfl hn hbytes (by omega) (by omega) fun cA' kA comp f1 f2 f3 f4 => ?_
  obtain ⟨kA2, comp2, g1, g2, g3, g4⟩ := (C.2.2.2.2.2.2.1.1.2 t _ (ht cA)).2
  have hcA : cA' = cA t := Option.some.inj (f1.symm.trans g4)
  subst hcA
  have hsz : H.size = qad b B (n + 1) := hR.2
  generalize hH1 : H.push ({ cls := cA t, slots := Array.replicate cnt.toNatClampNeg .null, vm := .none } : Cell) = H1
  have z1 : H1.size = H.size + 1 := by rw [← hH1, Array.size_push]
  have o1 : ∀ q, q < H.size → H1[q]? = H[q]? := fun q hq => by rw [← hH1, Array.getElem?_push, if_neg (Nat.ne_of_lt hq)]
  rw [hsz]
  refine kk p l e R s m args below meth c D cA b B tc ts Qf C H1 locs (cells + 1) (slots + cnt.toNatClampNeg) ls (by omega) (by omega) (qR_push hR z1 o1 ?_) (qS_push hS z1 o1) hl9
  show H1[qad b B (n + 1)]? = some (vp_cell _ _)
  rw [← hsz, ← hH1, Array.getElem?_push_size, q_rep]
theorem EV_anewA {idx : Nat} {cnt : Int32} {len : Nat} (hd : decode y.2.1 pc = .ok (.anewarray idx, 3)) (hlk : Cond.classLink y.1.cls idx (FieldType.array .int).toString ∈ qTBL) (how : ∀ (A : Array Value) (U : State), (∀ w ∈ qTBL, w.before A U = true) → (Cond.arrayOver (.array .int)).before A U = true) (hn : ¬ cnt < 0) (hN : cnt.toNatClampNeg = len) (hbytes : len * 4 ≤ 536870912)
    (kk : EV z k y (pc + 3) Lc (.ref (n + 1) :: st) (qset M (n + 1) (.inl (5, len, .inr (.inr (.inr (.inr (fun _ => none))))))) (n + 1) bc bs Q) : EV z k y pc Lc (.int cnt :: st) M n (bc + 1) (bs + len) Q := by
  intro p l e R s m args below meth c D cA b B tc ts Qf C H locs cells slots ls h1 h2 hR hS hl9
  have hb1 := C.2.2.2.2.2.2.2.2.2.1
  subst hN
  refine W.anewA C.1 C.2.1 C.2.2.2.1 (C.2.2.2.2.2.1 _ hlk) (how args s C.2.2.2.2.2.1) rfl hd rfl hn hbytes (by omega) (by omega) fun cA' kA comp f1 f2 f3 f4 => ?_
  have g4 : s.vm.findClass ("[" ++ (FieldType.array .int).toString) = some (cA 5) := (C.2.2.2.2.2.2.1.1.2 5 _ rfl).2
  have hcA : cA' = cA 5 := Option.some.inj (f1.symm.trans g4)
  subst hcA
  have hsz : H.size = qad b B (n + 1) := hR.2
  generalize hH1 : H.push ({ cls := cA 5, slots := Array.replicate cnt.toNatClampNeg .null, vm := .none } : Cell) = H1
  have z1 : H1.size = H.size + 1 := by rw [← hH1, Array.size_push]
  have o1 : ∀ q, q < H.size → H1[q]? = H[q]? := fun q hq => by rw [← hH1, Array.getElem?_push, if_neg (Nat.ne_of_lt hq)]
  rw [hsz]
  refine kk p l e R s m args below meth c D cA b B tc ts Qf C H1 locs (cells + 1) (slots + cnt.toNatClampNeg) ls (by omega) (by omega) (qR_push hR z1 o1 ?_) (qS_push hS z1 o1) hl9
  show H1[qad b B (n + 1)]? = some (vp_cell _ _)
  rw [← hsz, ← hH1, Array.getElem?_push_size, q_rep]
theorem EV_aast {r rv len t ci : Nat} {q : vw_C} {vs : List Value} {g : Nat → Option Nat} {i : Int32} (hd : decode y.2.1 pc = .ok (.aastore, 1)) (hr : 0 < r ∧ r ≤ n) (hrv : 0 < rv ∧ rv ≤ n) (hM : M r = .inl (t, len, .inr (.inr (.inr (.inr g))))) (hMv : M rv = .inr (ci, vs)) (hc : vwCl[ci]? = some q) (ht : ∀ cA : Nat → ClassId, (qT cA)[t]? = some (cA t, .object q.1)) (hin : vp_in i len)
    (kk : EV z k y (pc + 1) Lc st (qset M r (.inl (t, len, .inr (.inr (.inr (.inr (va_up g i.toNatClampNeg (some rv)))))))) n bc bs Q) : EV z k y pc Lc (.ref rv :: .int i :: .ref r :: st) M n bc bs Q := by
  intro p l e R s m args below meth c D cA b B tc ts Qf C H locs cells slots ls h1 h2 hR hS hl9
  have hD := qw_D b B C.2.2.2.2.2.2.2.2.1.1 cA M n
  have he := qw_here (qad b B) cA hr hM
  have hev := qw_here (qad b B) cA hrv hMv
  have hlt : i.toNatClampNeg < len := Nat.not_le.mp fun q => hin (Or.inr q)
  have h0 : ¬ i < 0 := fun q => hin (Or.inl q)
  obtain ⟨r', hr', cellV, g1, g2, g3, -⟩ := hR.1 (rv - 1) _ hev
  have hcls := (C.2.2.2.2.2.2.1.1.1 ci q hc).2
  obtain ⟨kA, comp, k1, k2, k3, -⟩ := (C.2.2.2.2.2.2.1.1.2 t _ (ht cA)).2
  have hcomp : comp = D.1 ci := Option.some.inj (k3.symm.trans hcls.1)
  subst hcomp
  obtain ⟨kC, hkC, -⟩ := hcls.2
  refine W.aast C.1 C.2.1 (hR.1 (r - 1) _ he) (fun q h => by cases h) (fun h => by cases h) k1 k2 rfl hkC ⟨h0, by show _ < (arrV _ _ _).slots.size; rw [arrV_size]; exact hlt⟩ g1 (fun q h => by rw [g3] at h; cases h) (by rw [g2]; exact hkC) (by rw [g2]; exact va_assign hcls) rfl rfl hd fun H1 e1 z1 oq => ?_
  have hP := hR.1.set (e := qe (qad b B) cA (.inl (t, len, .inr (.inr (.inr (.inr (va_up g i.toNatClampNeg (some rv)))))))) hD he (H1 := H1) ?_ oq
  · rw [qw_put (qad b B) cA hr] at hP
    exact kk p l e R s m args below meth c D cA b B tc ts Qf C H1 _ cells slots ls h1 h2 ⟨hP, z1.trans hR.2⟩ (hS.put z1 oq (hD.2 (r - 1) _ he)) hl9
  · show H1[qad b B r]? = some (vp_cell _ _)
    rw [e1]
    show some ((arrV _ _ (fun j => va_rf ((g j).map (qad b B)))).setSlot _ _) = some (arrV _ _ (fun j => va_rf ((va_up g i.toNatClampNeg (some rv) j).map (qad b B))))
    rw [arrV_store]
    congr 2
    funext j
    by_cases hq : j = i.toNatClampNeg
    · subst hq; simp [updV, va_up, va_rf]
    · simp [updV, va_up, hq]
/-- a row of ints into a row of such rows -/
theorem EV_aastA {r rv len lv : Nat} {fv : Nat → Int32} {g : Nat → Option Nat} {i : Int32} (hd : decode y.2.1 pc = .ok (.aastore, 1)) (hr : 0 < r ∧ r ≤ n) (hrv : 0 < rv ∧ rv ≤ n) (hM : M r = .inl (5, len, .inr (.inr (.inr (.inr g))))) (hMv : M rv = .inl (0, lv, .inl fv)) (hin : vp_in i len)
    (kk : EV z k y (pc + 1) Lc st (qset M r (.inl (5, len, .inr (.inr (.inr (.inr (va_up g i.toNatClampNeg (some rv)))))))) n bc bs Q) : EV z k y pc Lc (.ref rv :: .int i :: .ref r :: st) M n bc bs Q := by
  intro p l e R s m args below meth c D cA b B tc ts Qf C H locs cells slots ls h1 h2 hR hS hl9
  have hD := qw_D b B C.2.2.2.2.2.2.2.2.1.1 cA M n
  have he := qw_here (qad b B) cA hr hM
  have hev := hR.1 (rv - 1) _ (qw_here (qad b B) cA hrv hMv)
  have hlt : i.toNatClampNeg < len := Nat.not_le.mp fun q => hin (Or.inr q)
  have h0 : ¬ i < 0 := fun q => hin (Or.inl q)
  obtain ⟨kA, kC, k1, k2, k3⟩ := C.2.2.2.2.2.2.1.2
  refine W.aast C.1 C.2.1 (hR.1 (r - 1) _ he) (fun q h => by cases h) (fun h => by cases h) k1 k2 rfl k3 ⟨h0, by show _ < (arrV _ _ _).slots.size; rw [arrV_size]; exact hlt⟩ hev (fun q h => by cases h) k3 (q_self _ _) rfl rfl hd fun H1 e1 z1 oq => ?_
  have hP := hR.1.set (e := qe (qad b B) cA (.inl (5, len, .inr (.inr (.inr (.inr (va_up g i.toNatClampNeg (some rv)))))))) hD he (H1 := H1) ?_ oq
  · rw [qw_put (qad b B) cA hr] at hP
    exact kk p l e R s m args below meth c D cA b B tc ts Qf C H1 _ cells slots ls h1 h2 ⟨hP, z1.trans hR.2⟩ (hS.put z1 oq (hD.2 (r - 1) _ he)) hl9
  · show H1[qad b B r]? = some (vp_cell _ _)
    rw [e1]
    show some ((arrV _ _ (fun j => va_rf ((g j).map (qad b B)))).setSlot _ _) = some (arrV _ _ (fun j => va_rf ((va_up g i.toNatClampNeg (some rv) j).map (qad b B))))
    rw [arrV_store]
    congr 2
    funext j
    by_cases hq : j = i.toNatClampNeg
    · subst hq; simp [updV, va_up, va_rf]
    · simp [updV, va_up, hq]
end QNew
