/-! making cells -/
section XN
variable {u : Mi} {d : Nat} {E : En} {cl sl : Nat} {ad : Nat → Nat} {n : Nat} {kd : Nat → Nat × Nat} {r : Nat → Nat → Option Nat} {h : Nat → Nat → Int32} {lv : List (Nat × AV)} {st : List AV}
/-- the frame's values speak of cells of the world, or of the script's (from 1000 on) -/
def okV (n : Nat) (v : AV) : Prop := ∀ o, v = .inr (some o) → o < n ∨ 1000 ≤ o
def okF (n : Nat) (lv : List (Nat × AV)) (st : List AV) : Prop := (∀ q ∈ lv, okV n q.2) ∧ ∀ v ∈ st, okV n v
theorem cv_okV {ad ad' : Nat → Nat} {v : AV} (hv : okV n v) (ha : ∀ o, o < n ∨ 1000 ≤ o → ad' o = ad o) : cv ad' v = cv ad v := by
  rcases v with x | o
  · rfl
  · cases o with
    | none => rfl
    | some o =>
      show Value.ref (ad' o) = Value.ref (ad o)
      rw [ha o (hv o rfl)]
theorem lvc_okF {ad ad' : Nat → Nat} {lv : List (Nat × AV)} (hv : ∀ q ∈ lv, okV n q.2) (ha : ∀ o, o < n ∨ 1000 ≤ o → ad' o = ad o) : lvc ad' lv = lvc ad lv := List.map_congr_left (fun q hq => by rw [cv_okV (hv q hq) ha])
theorem stc_okF {ad ad' : Nat → Nat} {st : List AV} (hv : ∀ v ∈ st, okV n v) (ha : ∀ o, o < n ∨ 1000 ≤ o → ad' o = ad o) : st.map (cv ad') = st.map (cv ad) := List.map_congr_left (fun q hq => cv_okV (hv q hq) ha)
theorem refs_new {k : Nat × Nat} (hR : RefsOK (n, kd, r, h)) : RefsOK (n + 1, va_up kd n k, va_up r n (fun _ => none), va_up h n (fun _ => 0)) := by
  intro j i o ho
  have ho : va_up r n (fun _ => none) j i = some o := ho
  show o < n + 1
  by_cases hj : j = n
  · subst hj
    rw [va_up_self] at ho
    cases ho
  · rw [va_up_ne _ _ hj] at ho
    exact Nat.lt_succ_of_lt (hR j i o ho)
theorem ad_new {q : Nat} (hn : n < 1000) : ∀ o, o < n ∨ 1000 ≤ o → va_up ad n q o = ad o := fun o ho => va_up_ne _ _ (by omega)
/-- the world with one cell more -/
def wNew (w : Wd) (k : Nat × Nat) : Wd := (w.1 + 1, va_up w.2.1 w.1 k, va_up w.2.2.1 w.1 (fun _ => none), va_up w.2.2.2 w.1 (fun _ => 0))
theorem x_new (a : Amb u d E) (pc : Nat) {index ci : Nat} (hdg : decode u.2.1 pc = .ok (.new index, 3)) (hlay : LayOK ci) (hcl : Cond.classLink u.1.cls index (cls ci).1 ∈ AllW) (hinst : Cond.instantiable (cls ci).1 (cls ci).2.2 ∈ AllW) (hini : Cond.initialized (cls ci).1 ∈ AllW)
    (hdf : ∀ j, j < (cls ci).2.2 → defaultValue (fT ci j) = vp_V (fsl (fun j => if j < nR ci then Value.null else .int 0) (nF ci)) j) (hn : n < 1000) (hok : okF n lv st) (hc : cl + 1 ≤ (eR E).cells) (hs : sl + (cls ci).2.2 ≤ (eR E).slots)
    (kk : ∀ ad', (∀ o, o < n ∨ 1000 ≤ o → ad' o = ad o) → X E (cl + 1) (sl + (cls ci).2.2) ad' (wNew (n, kd, r, h) (ci + 4, 0)) (pc + 3) lv (.inr (some n) :: st)) : X E cl sl ad (n, kd, r, h) pc lv st := by
  intro H locs ls hR hP hD hS hl
  obtain ⟨hcc, hin, hty, hnm, hN⟩ := hlay
  refine va_new (D := eD E) (ci := ci) (C := (cls ci).1) (T := (cls ci).2.1) (N := (cls ci).2.2) (fs := fsl (fun j => if j < nR ci then Value.null else .int 0) (nF ci)) a.x a.b a.ts hin (fT ci) hty a.own (a.ts _ hcl) (a.ts _ hinst) (a.ts _ hini) a.k hP hD hS a.fr hcc hdf hc hs hdg (fun q H1 hP1 hD1 hS1 => ?_)
  have had := ad_new (ad := ad) (q := q) hn
  have he : ent (eK E) ad (ci + 4, 0) (fun _ => none) (fun _ => 0) = .inr (ci, fsl (fun j => if j < nR ci then Value.null else .int 0) (nF ci)) := rfl
  rw [← he, ← ws_push (n := n) (q := q) (k := (ci + 4, 0)) hR] at hP1 hD1
  have e1 : (.ref q :: st.map (cv ad) : List Value) = ((.inr (some n) :: st : List AV)).map (cv (va_up ad n q)) := by
    rw [List.map_cons, stc_okF hok.2 had]
    show _ = Value.ref (va_up ad n q n) :: _
    rw [va_up_self]
  rw [e1]
  exact kk (va_up ad n q) had H1 locs ls (refs_new hR) hP1 hD1 hS1 (by rw [lvc_okF hok.1 had]; exact hl)
theorem tyL_int {cA : Nat → ClassId} {cB : ClassId} {D : va_G} {s : State} {ty : FieldType} (hK : va_K D classes (tyL cA) s) (hK1 : va_K D classes (tyL cA ++ [(cB, ty)]) s) (t : Nat) (ht : (tyL cA)[t]? = some (cA t, ty)) : cB = cA t := by
  have h1 := (hK.2 t _ ht).2
  have h2 := (hK1.2 4 (cB, ty) rfl).2
  cases ty with
  | object C =>
    obtain ⟨_, _, _, _, _, g1⟩ := h1
    obtain ⟨_, _, _, _, _, g2⟩ := h2
    exact Option.some.inj (g2.symm.trans g1)
  | _ => exact Option.some.inj (h2.symm.trans h1)
theorem x_newa (a : Amb u d E) (pc : Nat) {t N : Nat} {i : Int32} {atype : ArrayType} {ty : FieldType} (hdg : decode u.2.1 pc = .ok (.newarray atype, 2)) (hty : newarray.typeOf atype = ty) (ht : (t = 0 ∧ ty = .int) ∨ (t = 1 ∧ ty = .boolean)) (harr : Cond.arrayClass ty ∈ AllW) (hi : i = nI N) (hN : N ≤ 1000)
    (hn : n < 1000) (hok : okF n lv st) (hc : cl + 1 ≤ (eR E).cells) (hs : sl + N ≤ (eR E).slots)
    (kk : ∀ ad', (∀ o, o < n ∨ 1000 ≤ o → ad' o = ad o) → X E (cl + 1) (sl + N) ad' (wNew (n, kd, r, h) (t, N)) (pc + 2) lv (.inr (some n) :: st)) : X E cl sl ad (n, kd, r, h) pc lv (.inl i :: st) := by
  intro H locs ls hR hP hD hS hl
  subst hi
  have hcl : (nI N).toNatClampNeg = N := nI_clamp (by omega)
  have hdv : ∀ cA : ClassId, vp_cell cA ((N, .inl (fun _ => 0)) : vp_A) = arrV cA N (fun _ => defaultValue ty) := by
    intro cA
    rcases ht with ⟨-, rfl⟩ | ⟨-, rfl⟩ <;> rfl
  have hbytes : N * componentBytes ty ≤ 536870912 := by
    rcases ht with ⟨-, rfl⟩ | ⟨-, rfl⟩
    · show N * 4 ≤ _
      omega
    · show N * 1 ≤ _
      omega
  refine va_newa (a0 := (N, .inl (fun _ => 0))) a.x a.b (by rw [hty]; exact a.ts _ harr) hty a.k hP hD hS a.fr hdv (nI_pos (by omega)) hcl hbytes hc hs hdg (fun q cB H1 hK1 hP1 hD1 hS1 => ?_)
  have had := ad_new (ad := ad) (q := q) hn
  have hcB : cB = eK E t := tyL_int a.k hK1 t (by rcases ht with ⟨rfl, rfl⟩ | ⟨rfl, rfl⟩ <;> rfl)
  have he : ent (eK E) ad (t, N) (fun _ => none) (fun _ => 0) = .inl (cB, N, .inl (fun _ => 0)) := by
    rw [hcB]
    rcases ht with ⟨rfl, rfl⟩ | ⟨rfl, rfl⟩ <;> rfl
  rw [← he, ← ws_push (n := n) (q := q) (k := (t, N)) hR] at hP1 hD1
  have e1 : (.ref q :: st.map (cv ad) : List Value) = ((.inr (some n) :: st : List AV)).map (cv (va_up ad n q)) := by
    rw [List.map_cons, stc_okF hok.2 had]
    show _ = Value.ref (va_up ad n q n) :: _
    rw [va_up_self]
  rw [e1]
  exact kk (va_up ad n q) had H1 locs ls (refs_new hR) hP1 hD1 hS1 (by rw [lvc_okF hok.1 had]; exact hl)
theorem x_newq (a : Amb u d E) (pc : Nat) {index t N : Nat} {i : Int32} {C : String} (hdg : decode u.2.1 pc = .ok (.anewarray index, 3)) (hcl : Cond.classLink u.1.cls index C ∈ AllW) (hover : va_AO C (eS E)) (ht : (t = 2 ∧ C = R_2) ∨ (t = 3 ∧ C = R_3)) (hi : i = nI N) (hN : N ≤ 1000)
    (hn : n < 1000) (hok : okF n lv st) (hc : cl + 1 ≤ (eR E).cells) (hs : sl + N ≤ (eR E).slots)
    (kk : ∀ ad', (∀ o, o < n ∨ 1000 ≤ o → ad' o = ad o) → X E (cl + 1) (sl + N) ad' (wNew (n, kd, r, h) (t, N)) (pc + 3) lv (.inr (some n) :: st)) : X E cl sl ad (n, kd, r, h) pc lv (.inl i :: st) := by
  intro H locs ls hR hP hD hS hl
  subst hi
  have hcn : (nI N).toNatClampNeg = N := nI_clamp (by omega)
  refine va_newq a.x a.b a.own (a.ts _ hcl) hover a.k hP hD hS a.fr (nI_pos (by omega)) hcn (by omega) hc hs hdg (fun q cB H1 hK1 hP1 hD1 hS1 => ?_)
  have had := ad_new (ad := ad) (q := q) hn
  have hcB : cB = eK E t := tyL_int a.k hK1 t (by rcases ht with ⟨rfl, rfl⟩ | ⟨rfl, rfl⟩ <;> rfl)
  have he : ent (eK E) ad (t, N) (fun _ => none) (fun _ => 0) = .inl (cB, N, .inr (.inr (.inr (.inr (fun _ => none))))) := by
    rw [hcB]
    rcases ht with ⟨rfl, rfl⟩ | ⟨rfl, rfl⟩ <;> rfl
  rw [← he, ← ws_push (n := n) (q := q) (k := (t, N)) hR] at hP1 hD1
  have e1 : (.ref q :: st.map (cv ad) : List Value) = ((.inr (some n) :: st : List AV)).map (cv (va_up ad n q)) := by
    rw [List.map_cons, stc_okF hok.2 had]
    show _ = Value.ref (va_up ad n q n) :: _
    rw [va_up_self]
  rw [e1]
  exact kk (va_up ad n q) had H1 locs ls (refs_new hR) hP1 hD1 hS1 (by rw [lvc_okF hok.1 had]; exact hl)
end XN
/-! a method's contract -/
def QB (n0 mc : Nat) (D : va_G) (cA : Nat → ClassId) (ad0 : Nat → Nat) (A : Nat → Prop) (w : Wd) (t : State) : Prop := ∃ ad : Nat → Nat, (∀ o, o < n0 ∨ 1000 ≤ o → ad o = ad0 o) ∧ (mc = 0 → ad = ad0) ∧ RefsOK w ∧ va_P D classes (ws cA ad w) t.heap ∧ va_K D classes (tyL cA) t ∧ va_D A (ws cA ad w)
def QC (Post : Option Int32 → Wd → Prop) (B : Wd → State → Prop) (A : Nat → Prop) : Array Value → State → Outcome → State → Prop := fun _ s oc t => (∃ (v : Option Int32) (w : Wd), oc = .returned (v.map Value.int) ∧ Post v w ∧ B w t) ∧ va_F A s t
def PCo (D : va_G) (cA : Nat → ClassId) (ad : Nat → Nat) (w : Wd) (U : State) : Prop := RefsOK w ∧ va_P D classes (ws cA ad w) U.heap ∧ va_K D classes (tyL cA) U ∧ va_D (fun _ => True) (ws cA ad w) ∧ (∀ x ∈ NestW, va_Nw x U) ∧ va_AO R_2 U ∧ va_AO R_3 U
def wds (u : Mi) : List Cond := .code u.1 u.2.1 u.2.2.1 u.2.2.2 :: AllW
def Cn (u : Mi) (d mc ms : Nat) (w : Wd) (as : List AV) (Post : Option Int32 → Wd → Prop) : Prop :=
  ∀ (l : Launch) (D : va_G) (cA : Nat → ClassId) (ad : Nat → Nat) (sz : Nat), Met l u.1 (wds u) { frames := d, cells := mc, slots := ms, locals := 40 * d } (va_Pc (as.map (cv ad)) (fun U => U.heap.size = sz ∧ PCo D cA ad w U)) (QC Post (QB w.1 mc D cA ad (va_A (ws cA ad w) sz)) (va_A (ws cA ad w) sz)) mc ms (va_A (ws cA ad w) sz)
/-- the end that a method's contract asks -/
def Fin (Post : Option Int32 → Wd → Prop) (n0 : Nat) (ad0 : Nat → Nat) (mc ms : Nat) (E : En) : Prop := eQ E = MQ (eB E) (QC Post (QB n0 mc (eD E) (eK E) ad0 (eF E)) (eF E)) (eA E) (eS E) mc ms (eF E) ∧ mc ≤ (eR E).cells ∧ ms ≤ (eR E).slots ∧ va_AO R_2 (eS E) ∧ va_AO R_3 (eS E)
def argsL : Nat → List AV → List (Nat × AV)
  | _, [] => []
  | i, v :: vs => (i, v) :: argsL (i + 1) vs
theorem lvc_args (ad : Nat → Nat) : ∀ (as : List AV) (i : Nat), lv_args i (as.map (cv ad)) = lvc ad (argsL i as)
  | [], _ => rfl
  | v :: vs, i => by
    rw [List.map_cons]
    simp only [lv_args, cv_cat]
    rw [if_neg (by decide), lvc_args ad vs (i + 1)]
    rfl
theorem lg_len (ad : Nat → Nat) : ∀ as : List AV, (lg_sl (as.map (cv ad))).length = as.length
  | [] => rfl
  | v :: vs => by
    have ih := lg_len ad vs
    unfold lg_sl at ih ⊢
    rw [List.map_cons, List.flatMap_cons, cv_cat, if_neg (by decide), List.length_append, ih]
    simp
    omega
theorem Cn.of {u : Mi} {d mc ms : Nat} {w : Wd} {as : List AV} {Post : Option Int32 → Wd → Prop} (hy : plainName u.1.cls = true) (hlen : as.length ≤ u.2.2.1) (body : ∀ (E : En) (ad : Nat → Nat), Amb u d E → Fin Post w.1 ad mc ms E → X E 0 0 ad w 0 (argsL 0 as) []) : Cn u d mc ms w as Post := by
  intro l D cA ad sz
  refine Met.ofW (cc := u.2.1) (maxL := u.2.2.1) (ret := u.2.2.2) hy rfl ?_
  intro p e s m args below meth c s₁ B hml hv
  obtain ⟨rfl, hsz, hR, hP, hK, hD0, hns, h2, h3⟩ := hv
  have hts := atoms_spec (ws := wds u) B.pre
  subst hsz
  have hD := hD0.self (sz := s.heap.size)
  have a : Amb u d (p, l, e, (headSpec (wds u) { frames := d, cells := mc, slots := ms, locals := 40 * d }).room, s, m, (as.map (cv ad)).toArray, below, meth, c, D, cA, va_A (ws cA ad w) s.heap.size, MQ below (QC Post (QB w.1 mc D cA ad (va_A (ws cA ad w) s.heap.size)) (va_A (ws cA ad w) s.heap.size)) (as.map (cv ad)).toArray s mc ms (va_A (ws cA ad w) s.heap.size)) :=
    ⟨B.exec, B.bytes, B.returns, hml, B.notSynchronized, (name_of_methodNamed B.named B.method).1, findClass_of_methodNamed B.named, fun x hx => hts x (List.mem_cons_of_mem _ hx), hns, hK, fun q hq => Or.inr hq, Nat.le_refl _, Nat.le_refl _⟩
  have hl := lv_entry (as.map (cv ad)) (n := u.2.2.1) (by rw [lg_len]; exact hlen)
  rw [lg_entry_eq]
  rw [lvc_args] at hl
  exact body _ ad a ⟨rfl, Nat.le_refl _, Nat.le_refl _, h2, h3⟩ s.heap [] _ hR hP hD va_S.rf (by rw [a.ml]; exact hl)
section XE
variable {u : Mi} {d mc ms n0 : Nat} {E : En} {cl sl : Nat} {ad ad0 : Nat → Nat} {w : Wd} {lv : List (Nat × AV)} {Post : Option Int32 → Wd → Prop}
theorem x_end {H : Heap} {locs : List Loc} {v : Option Int32} (a : Amb u d E) (had : ∀ o, o < n0 ∨ 1000 ≤ o → ad o = ad0 o) (hm : mc = 0 → ad = ad0) (hp : Post v w) (hR : RefsOK w) (hP : va_P (eD E) classes (ws (eK E) ad w) H) (hD : va_D (eF E) (ws (eK E) ad w)) (hS : va_S (eF E) (eS E).heap H locs) : ∀ t : State, t.heap = H → (eS E).WarmedH t.vm → QC Post (QB n0 mc (eD E) (eK E) ad0 (eF E)) (eF E) (eA E) (eS E) (.returned (v.map Value.int)) t :=
  fun t ht hW => ⟨⟨v, w, rfl, hp, ad, had, hm, hR, by rw [ht]; exact hP, va_K.moved hW.alike a.k, hD⟩, hS.F ht⟩
/-- ends of methods that make nothing -/
theorem x_iret (a : Amb u d E) (q : Fin Post n0 ad 0 0 E) (pc : Nat) {v : Int32} (hdg : decode u.2.1 pc = .ok (.ireturn, 1)) (hr : u.2.2.2 = some .int) (hp : Post (some v) w) : X E 0 0 ad w pc lv [.inl v] := by
  intro H locs ls hR hP hD hS hl
  rw [q.1]
  exact W.iret a.x a.b (a.r.trans hr) (x_end (v := some v) a (fun _ _ => rfl) (fun _ => rfl) hp hR hP hD hS) hS.2.2 hdg a.lk
theorem x_zret (a : Amb u d E) (q : Fin Post n0 ad 0 0 E) (pc : Nat) {v : Int32} (hdg : decode u.2.1 pc = .ok (.ireturn, 1)) (hr : u.2.2.2 = some .boolean) (hv : narrow .boolean (.int v) = .int v) (hp : Post (some v) w) : X E 0 0 ad w pc lv [.inl v] := by
  intro H locs ls hR hP hD hS hl
  rw [q.1]
  exact W.zret a.x a.b (a.r.trans hr) hv (x_end (v := some v) a (fun _ _ => rfl) (fun _ => rfl) hp hR hP hD hS) hS.2.2 hdg a.lk
theorem x_vret (a : Amb u d E) (q : Fin Post n0 ad 0 0 E) (pc : Nat) (hdg : decode u.2.1 pc = .ok (.return_, 1)) (hr : u.2.2.2 = none) (hp : Post none w) : X E 0 0 ad w pc lv [] := by
  intro H locs ls hR hP hD hS hl
  rw [q.1]
  exact W.vret a.x a.b (a.r.trans hr) (x_end (v := none) a (fun _ _ => rfl) (fun _ => rfl) hp hR hP hD hS) hS.2.2 hdg a.lk
/-- the end of a constructor that makes cells -/
theorem x_vretN (a : Amb u d E) (q : Fin Post n0 ad0 mc ms E) (pc : Nat) (hdg : decode u.2.1 pc = .ok (.return_, 1)) (hr : u.2.2.2 = none) (had : ∀ o, o < n0 ∨ 1000 ≤ o → ad o = ad0 o) (hm : 0 < mc) (hc : cl ≤ mc) (hs : sl ≤ ms) (hp : Post none w) : X E cl sl ad w pc lv [] := by
  refine x_widen hc hs ?_
  intro H locs ls hR hP hD hS hl
  rw [q.1]
  exact W.vret a.x a.b (a.r.trans hr) (x_end (v := none) a had (fun z => by omega) hp hR hP hD hS) hS.2.2 hdg a.lk
end XE
/-! calls -/
theorem nest_warm {s U : State} (hW : s.WarmedH U.vm) (h : ∀ x ∈ NestW, va_Nw x s) : ∀ x ∈ NestW, va_Nw x U := NestW_warm hW h
theorem nest_same {s U : State} (hv : s.vm = U.vm) (h : ∀ x ∈ NestW, va_Nw x s) : ∀ x ∈ NestW, va_Nw x U := fun x hx => va_Nw.same (NestW_tab x hx) hv (h x hx)
theorem good_wds {u : Mi} (hc : Cond.code u.1 u.2.1 u.2.2.1 u.2.2.2 ∈ AllW) : GoodIn AllW (wds u) := by
  intro x hx
  rcases List.mem_cons.mp hx with rfl | hx
  · exact ⟨hc, Or.inl rfl⟩
  · exact ⟨hx, AllW_good x hx⟩
theorem pco_blind {D : va_G} {cA : Nat → ClassId} {ad : Nat → Nat} {w : Wd} {as : List AV} {sz : Nat} : FrameBlind (va_Pc (as.map (cv ad)) (fun U => U.heap.size = sz ∧ PCo D cA ad w U)) := by
  intro a U g mk q
  obtain ⟨q0, q1, qR, qP, qK, qD, qN, q2, q3⟩ := q
  exact ⟨q0, q1, qR, qP, va_K.moved (u := U) (U := U.calling g mk a) (Vm.Alike.refl U.vm) qK, qD, nest_same (s := U) (U := U.calling g mk a) rfl qN, va_AO.moved (u := U) (U := U.calling g mk a) (Vm.Alike.refl U.vm) q2, va_AO.moved (u := U) (U := U.calling g mk a) (Vm.Alike.refl U.vm) q3⟩
section XC
variable {u u' : Mi} {d d' mc ms mc' ms' n0 : Nat} {E : En} {cl sl : Nat} {ad ad0 : Nat → Nat} {w : Wd} {lv : List (Nat × AV)} {Post Post' : Option Int32 → Wd → Prop} {rest as : List AV}
theorem pco_here {H : Heap} (a : Amb u d E) (q2 : va_AO R_2 (eS E)) (q3 : va_AO R_3 (eS E)) (hR : RefsOK w) (hP : va_P (eD E) classes (ws (eK E) ad w) H) (hD : va_D (eF E) (ws (eK E) ad w)) : ∀ U : State, U.heap = H → (eS E).WarmedH U.vm → va_Pc (as.map (cv ad)) (fun U => U.heap.size = H.size ∧ PCo (eD E) (eK E) ad w U) (as.map (cv ad)).toArray U :=
  fun U hU hW => ⟨rfl, by rw [hU], hR, by rw [hU]; exact hP, va_K.moved hW.alike a.k, hD.weaken (fun _ _ _ _ => trivial), nest_warm hW a.ns, va_AO.moved hW.alike q2, va_AO.moved hW.alike q3⟩
/-- behind a call -/
theorem x_back {H : Heap} {locs : List Loc} {ls : Array Slot} {pc : Nat} {st0 : List Value} {av : Array Value} (a : Amb u d E) (hD : va_D (eF E) (ws (eK E) ad w)) (hS : va_S (eF E) (eS E).heap H locs) (hl : lv_has ls (eC E).maxLocals (lvc ad lv))
    (hr : va_Run (eP E) (eL E) (eE E) (eR E) (eS E) (eM E) (eA E) (eB E) (eT E) (eC E) H locs cl sl mc' ms' (F0 (eM E) pc ls st0) (rest.map (cv ad)) (QC Post' (QB w.1 mc' (eD E) (eK E) ad (va_A (ws (eK E) ad w) H.size)) (va_A (ws (eK E) ad w) H.size) av) (va_A (ws (eK E) ad w) H.size))
    (kk : ∀ v w' ad', (∀ o, o < w.1 ∨ 1000 ≤ o → ad' o = ad o) → (mc' = 0 → ad' = ad) → Post' v w' → lvc ad' lv = lvc ad lv ∧ rest.map (cv ad') = rest.map (cv ad) ∧ X E (cl + mc') (sl + ms') ad' w' (pc + 3) lv (v.toList.map .inl ++ rest)) :
    W (eP E) (eL E) (eE E) (eR E) (eS E) (eM E) (eA E) (eB E) (eT E) (eC E) H locs cl sl (eQ E) (F0 (eM E) pc ls st0) := by
  intro T hT Xs
  have hA : ∀ q, va_A (ws (eK E) ad w) H.size q → eF E q := by
    intro q hq
    rcases hq with ⟨k, e, hk⟩ | hq
    · exact hD.2 k _ hk
    · exact a.fr q (Nat.le_trans hS.1 hq)
  obtain ⟨v, st₀, t, T', L, h0, X', hL, e1, e2, ⟨⟨v', w', hv, hp, ad', g1, g2, g3, g4, g5, g6⟩, hz, hk⟩, st⟩ := hr T hT Xs
  cases hv
  rw [h0] at hz hk
  obtain ⟨k1, k2, k3⟩ := kk v' w' ad' g1 g2 hp
  have hS' : va_S (eF E) (eS E).heap T'.heap (locs ++ L) := ⟨Nat.le_trans hS.1 (by rw [e1]; exact hz), fun q h1 h2 => by rw [e1, hk q (Nat.lt_of_lt_of_le h1 hS.1) (fun z => h2 (hA q z))]; exact hS.2.1 q h1 h2, fun q hq => by
    rcases List.mem_append.mp hq with h | h
    · exact hS.2.2 q h
    · exact hA _ (hL q h)⟩
  have k4 := k3 T'.heap (locs ++ L) ls g3 (by rw [e1]; exact g4) (g6.weaken (fun _ q _ h => hA q.1 h)) hS' (by rw [k1]; exact hl)
  rw [List.map_append, k2] at k4
  have k5 : (v'.toList.map (Sum.inl : Int32 → AV)).map (cv ad') = (v'.map Value.int).toList := by cases v' <;> rfl
  rw [k5] at k4
  obtain ⟨t2, a1, b1⟩ := k4 T' rfl X'
  exact ⟨t2, st t2 a1, b1⟩
end XC
def CodeOK (u' : Mi) (n : Nat) : Prop := Cond.code u'.1 u'.2.1 u'.2.2.1 u'.2.2.2 ∈ AllW ∧ Cond.initialized u'.1.cls ∈ AllW ∧ u'.2.2.1 ≤ 21 ∧ u'.1.cls ≠ "java/lang/invoke/MethodHandle" ∧ u'.1.cls ≠ "java/lang/invoke/VarHandle" ∧ (parseMethodDescriptor u'.1.desc).map (fun d => d.parameters.length) = some n
def CallS (own : String) (index : Nat) (u' : Mi) (n : Nat) : Prop := CodeOK u' n ∧ Cond.methodLink own index u'.1 ∈ AllW ∧ Cond.static u'.1 ∈ AllW
def CallSN (own host : String) (index : Nat) (u' : Mi) (n : Nat) : Prop := CodeOK u' n ∧ Cond.methodLinkNest own index u'.1 host ∈ NestW ∧ Cond.static u'.1 ∈ AllW
def CallV (own : String) (index : Nat) (u' : Mi) (n ci : Nat) : Prop := CodeOK u' n ∧ Cond.methodLink own index u'.1 ∈ AllW ∧ Cond.instanceMethod u'.1 ∈ AllW ∧ Cond.selects u'.1.cls u'.1 u'.1 ∈ AllW ∧ classes[ci]? = some (cls ci) ∧ (cls ci).1 = u'.1.cls
def CallI (own : String) (index : Nat) (u' : Mi) (n : Nat) : Prop := CodeOK u' n ∧ Cond.methodLink own index u'.1 ∈ AllW ∧ Cond.instanceMethod u'.1 ∈ AllW ∧ u'.1.name = "<init>" ∧ u'.2.2.2 = none
theorem cat_sum (ad : Nat → Nat) : ∀ st : List AV, ((st.map (cv ad)).map fun v => v.category).sum = st.length
  | [] => rfl
  | v :: vs => by
    rw [List.map_cons, List.map_cons, List.sum_cons, cv_cat, cat_sum ad vs, List.length_cons]
    omega
section XC2
variable {u u' : Mi} {d d' mc' ms' : Nat} {E : En} {cl sl : Nat} {ad : Nat → Nat} {w : Wd} {lv : List (Nat × AV)} {Post' : Option Int32 → Wd → Prop} {rest as stk : List AV}
theorem x_callB {index n : Nat} {rm : Room} (a : Amb u d E) (hk : CodeOK u' n) (hl : (Cond.methodLink u.1.cls index u'.1).before (eA E) (eS E) = true) (hrm : rm = { frames := d', cells := mc', slots := ms', locals := 40 * d' }) (hd : d' + 1 ≤ d) : CallB (eR E) (eS E) (eA E) u.1.cls index u'.1 u'.2.1 u'.2.2.1 u'.2.2.2 (wds u') rm mc' ms' n := by
  obtain ⟨h1, h2, h3, h4⟩ := hk
  subst hrm
  have := a.fd
  have := a.l
  exact callB_of n a.ts (good_wds h1) rfl rfl rfl (a.ts _ h2) hl h4 ⟨by show d' + 1 ≤ _; omega, by show 8 + (u'.2.2.1 + 11) + 40 * d' ≤ _; omega⟩
theorem x_rev (ad : Nat → Nat) (hst : stk = as.reverse ++ rest) : stk.map (cv ad) = (as.map (cv ad)).reverse ++ rest.map (cv ad) := by
  rw [hst, List.map_append, List.map_reverse]
/-- a static call of a method that makes nothing -/
theorem x_callS (a : Amb u d E) (qa : va_AO R_2 (eS E) ∧ va_AO R_3 (eS E)) (pc : Nat) {index n : Nat} (hw : CallS u.1.cls index u' n) (hdg : decode u.2.1 pc = .ok (.invokestatic index, 3)) (hc : Cn u' d' 0 0 w as Post') (hst : stk = as.reverse ++ rest) (hn : as.length = n) (hd : d' + 1 ≤ d) (hrest : rest.length ≤ 8) (hcs : cl ≤ (eR E).cells ∧ sl ≤ (eR E).slots)
    (kk : ∀ v w', Post' v w' → X E cl sl ad w' (pc + 3) lv (v.toList.map .inl ++ rest)) : X E cl sl ad w pc lv stk := by
  intro H locs ls hR hP hD hS hl
  refine x_back (mc' := 0) (ms' := 0) (rest := rest) (Post' := Post') (w := w) (ad := ad) (lv := lv) (av := (as.map (cv ad)).toArray) a hD hS hl ?_ (fun v w' ad' _ h2 hp => by
    have h2 := h2 rfl
    subst h2
    exact ⟨rfl, rfl, kk v w' hp⟩)
  exact va_runS (Ts := AllW) (n := n) (nL := (eC E).maxLocals) ⟨a.x, a.b, rfl, a.own, a.ts⟩ (hc (eL E) (eD E) (eK E) ad H.size) ⟨x_callB a hw.1 (a.ts _ hw.2.1) rfl hd, a.ts _ hw.2.2⟩ ⟨pco_blind, pco_here a qa.1 qa.2 hR hP hD⟩ rfl (by rw [List.length_map]; exact hn) hl.1 (x_rev ad hst) (lv_room (by rw [cat_sum]; exact hrest)) hdg hcs
/-- the same, of a nest mate -/
theorem x_callSN (a : Amb u d E) (qa : va_AO R_2 (eS E) ∧ va_AO R_3 (eS E)) (pc : Nat) {index n : Nat} {host : String} (hw : CallSN u.1.cls host index u' n) (hdg : decode u.2.1 pc = .ok (.invokestatic index, 3)) (hc : Cn u' d' 0 0 w as Post') (hst : stk = as.reverse ++ rest) (hn : as.length = n) (hd : d' + 1 ≤ d) (hrest : rest.length ≤ 8) (hcs : cl ≤ (eR E).cells ∧ sl ≤ (eR E).slots)
    (kk : ∀ v w', Post' v w' → X E cl sl ad w' (pc + 3) lv (v.toList.map .inl ++ rest)) : X E cl sl ad w pc lv stk := by
  intro H locs ls hR hP hD hS hl
  refine x_back (mc' := 0) (ms' := 0) (rest := rest) (Post' := Post') (w := w) (ad := ad) (lv := lv) (av := (as.map (cv ad)).toArray) a hD hS hl ?_ (fun v w' ad' _ h2 hp => by
    have h2 := h2 rfl
    subst h2
    exact ⟨rfl, rfl, kk v w' hp⟩)
  obtain ⟨⟨h1, h2, h3, h4⟩, h5, h6⟩ := hw
  have hA := a.fd
  have hB := a.l
  exact va_runSN (Ts := AllW) (n := n) (nL := (eC E).maxLocals) ⟨a.x, a.b, rfl, a.own, a.ts⟩ (hc (eL E) (eD E) (eK E) ad H.size) ⟨va_cnB n a.ts (good_wds h1) rfl rfl rfl (a.ns _ h5) (a.ts _ h2) h4 ⟨by show d' + 1 ≤ _; omega, by show 8 + (u'.2.2.1 + 11) + 40 * d' ≤ _; omega⟩, a.ts _ h6, trivial⟩ ⟨pco_blind, pco_here a qa.1 qa.2 hR hP hD⟩ rfl (by rw [List.length_map]; exact hn) hl.1 (x_rev ad hst) (lv_room (by rw [cat_sum]; exact hrest)) hdg hcs
/-- a call of an object's method that makes nothing -/
theorem x_callV (a : Amb u d E) (qa : va_AO R_2 (eS E) ∧ va_AO R_3 (eS E)) (pc : Nat) {index n ci o : Nat} (hw : CallV u.1.cls index u' n ci) (hdg : decode u.2.1 pc = .ok (.invokevirtual index, 3)) (hc : Cn u' d' 0 0 w (.inr (some o) :: as) Post') (hst : stk = as.reverse ++ .inr (some o) :: rest) (hn : as.length = n) (hk : (w.2.1 o).1 = ci + 4) (ho : o < w.1) (hd : d' + 1 ≤ d) (hrest : rest.length ≤ 8) (hcs : cl ≤ (eR E).cells ∧ sl ≤ (eR E).slots)
    (kk : ∀ v w', Post' v w' → X E cl sl ad w' (pc + 3) lv (v.toList.map .inl ++ rest)) : X E cl sl ad w pc lv stk := by
  intro H locs ls hR hP hD hS hl
  refine x_back (mc' := 0) (ms' := 0) (rest := rest) (Post' := Post') (w := w) (ad := ad) (lv := lv) (av := ((.inr (some o) :: as : List AV).map (cv ad)).toArray) a hD hS hl ?_ (fun v w' ad' _ h2 hp => by
    have h2 := h2 rfl
    subst h2
    exact ⟨rfl, rfl, kk v w' hp⟩)
  obtain ⟨hcd, h5, h6, h7, h8, h9⟩ := hw
  have hcell := va_recv (q0 := o) (ci := ci) (q := cls ci) (fs := fsl (fun j => if j < nR ci then va_rf ((w.2.2.1 o j).map ad) else .int (w.2.2.2 o j)) (nF ci)) a.k hP h8 (by rw [ws_at ho, ent_obj hk])
  rw [h9] at hcell
  exact va_runV (Ts := AllW) (n := n) (nL := (eC E).maxLocals) (As := as.map (cv ad)) (b := ad o) (C := u'.1.cls) ⟨a.x, a.b, rfl, a.own, a.ts⟩ (hc (eL E) (eD E) (eK E) ad H.size) ⟨x_callB a hcd (a.ts _ h5) rfl hd, a.ts _ h6, a.ts _ h7⟩ ⟨pco_blind, hcell, pco_here a qa.1 qa.2 hR hP hD⟩ rfl (by rw [List.length_map]; exact hn) hl.1 (by rw [hst, List.map_append, List.map_reverse]; rfl) (lv_room (by rw [cat_sum]; exact hrest)) hdg hcs
/-- a constructor: cells may come -/
theorem x_callI (a : Amb u d E) (qa : va_AO R_2 (eS E) ∧ va_AO R_3 (eS E)) (pc : Nat) {index n o : Nat} (hw : CallI u.1.cls index u' n) (hdg : decode u.2.1 pc = .ok (.invokespecial index, 3)) (hc : Cn u' d' mc' ms' w (.inr (some o) :: as) Post') (hst : stk = as.reverse ++ .inr (some o) :: rest) (hn : as.length = n) (hd : d' + 1 ≤ d) (hrest : rest.length ≤ 8) (hok : okF w.1 lv rest) (hcs : cl + mc' ≤ (eR E).cells ∧ sl + ms' ≤ (eR E).slots)
    (kk : ∀ v w' ad', (∀ o, o < w.1 ∨ 1000 ≤ o → ad' o = ad o) → Post' v w' → X E (cl + mc') (sl + ms') ad' w' (pc + 3) lv (v.toList.map .inl ++ rest)) : X E cl sl ad w pc lv stk := by
  intro H locs ls hR hP hD hS hl
  refine x_back (mc' := mc') (ms' := ms') (rest := rest) (Post' := Post') (w := w) (ad := ad) (lv := lv) (av := ((.inr (some o) :: as : List AV).map (cv ad)).toArray) a hD hS hl ?_ (fun v w' ad' h1 _ hp => ⟨lvc_okF hok.1 h1, stc_okF hok.2 h1, kk v w' ad' h1 hp⟩)
  obtain ⟨hcd, h5, h6, h7, h8⟩ := hw
  have hB := x_callB (mc' := mc') (ms' := ms') (d' := d') a hcd (a.ts _ h5) rfl hd
  rw [h8] at hB
  exact va_runI (Ts := AllW) (n := n) (nL := (eC E).maxLocals) (As := as.map (cv ad)) (b := ad o) ⟨a.x, a.b, rfl, a.own, a.ts⟩ (hc (eL E) (eD E) (eK E) ad H.size) ⟨hB, h7, a.ts _ h6⟩ ⟨pco_blind, pco_here a qa.1 qa.2 hR hP hD⟩ rfl (by rw [List.length_map]; exact hn) hl.1 (by rw [hst, List.map_append, List.map_reverse]; rfl) (lv_room (by rw [cat_sum]; exact hrest)) hdg hcs
/-- Object's own constructor -/
theorem x_objInit (a : Amb u d E) (pc : Nat) {index o : Nat} (hdg : decode u.2.1 pc = .ok (.invokespecial index, 3)) (hl1 : Cond.methodLink u.1.cls index Lib.objectInit ∈ AllW) (hl2 : Cond.instanceMethod Lib.objectInit ∈ AllW) (hl3 : Cond.code Lib.objectInit ⟨#[0xb1]⟩ 1 none ∈ AllW) (hd : 1 ≤ d) (hrest : rest.length ≤ 8) (kk : X E cl sl ad w (pc + 3) lv rest) : X E cl sl ad w pc lv (.inr (some o) :: rest) := by
  intro H locs ls hR hP hD hS hl
  have hA := a.fd
  have hB := a.l
  refine W.objInit a.x a.b a.own (a.ts _ hl1) (a.ts _ hl2) (a.ts _ hl3) rfl hl.1 rfl hdg (by omega) ?_ (kk H locs ls hR hP hD hS hl)
  show 2 * 0 + ((rest.map (cv ad)).map fun v => v.category).sum + 12 ≤ _
  rw [cat_sum]
  omega
theorem x_min (a : Amb u d E) (pc : Nat) {index : Nat} {x y : Int32} (hdg : decode u.2.1 pc = .ok (.invokestatic index, 3)) (hl1 : Cond.methodLink u.1.cls index Lib.Math.min.name ∈ AllW) (hl2 : Cond.static Lib.Math.min.name ∈ AllW) (hl3 : Cond.initialized "java/lang/Math" ∈ AllW) (hl4 : Cond.code Lib.Math.min.name Lib.Math.min.code 2 (some .int) ∈ AllW) (hd : 1 ≤ d) (hrest : rest.length ≤ 8) (hcs : cl ≤ (eR E).cells ∧ sl ≤ (eR E).slots) (kk : X E cl sl ad w (pc + 3) lv (.inl (if y < x then y else x) :: rest)) : X E cl sl ad w pc lv (.inl y :: .inl x :: rest) := by
  intro H locs ls hR hP hD hS hl
  have hA := a.fd
  have hB := a.l
  refine va_mmin a.x a.b hl.1.symm a.own (a.ts _ hl1) (a.ts _ hl2) (a.ts _ hl3) (a.ts _ hl4) (by omega) ?_ hcs.1 hcs.2 hdg (kk H locs ls hR hP hD hS hl)
  rw [cat_sum]
  omega
end XC2
