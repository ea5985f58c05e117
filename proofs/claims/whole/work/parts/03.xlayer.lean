/-! the X layer: all cells of one world by their numbers; a row an instruction -/
abbrev AV : Type := Int32 ⊕ Option Nat
def cv (ad : Nat → Nat) (v : AV) : Value := match v with
  | .inl x => .int x
  | .inr o => va_rf (o.map ad)
theorem cv_cat (ad : Nat → Nat) (v : AV) : (cv ad v).category = 1 := by
  rcases v with x | o
  · rfl
  · cases o <;> rfl
abbrev Wd : Type := Nat × (Nat → Nat × Nat) × (Nat → Nat → Option Nat) × (Nat → Nat → Int32)
def fsl {α : Type} (f : Nat → α) (n : Nat) : List α := (List.range n).map f
theorem fsl_get {α : Type} {f : Nat → α} {n k : Nat} (h : k < n) : (fsl f n)[k]? = some (f k) := by simp [fsl, h]
theorem fsl_len {α : Type} (f : Nat → α) (n : Nat) : (fsl f n).length = n := by simp [fsl]
theorem fsl_congr {α : Type} {f g : Nat → α} {n : Nat} (h : ∀ j, j < n → f j = g j) : fsl f n = fsl g n := List.map_congr_left (fun j hj => h j (List.mem_range.mp hj))
theorem fsl_set {α : Type} (f : Nat → α) (n k : Nat) (v : α) : (fsl f n).set k v = fsl (fun j => if j = k then v else f j) n := by
  apply List.ext_getElem?
  intro i
  by_cases hi : i < n
  · rw [fsl_get hi]
    by_cases hk : i = k
    · subst hk
      rw [List.getElem?_set_self (by rw [fsl_len]; exact hi), if_pos rfl]
    · rw [List.getElem?_set_ne (Ne.symm hk), fsl_get hi, if_neg hk]
  · rw [List.getElem?_eq_none (by rw [List.length_set, fsl_len]; omega), List.getElem?_eq_none (by rw [fsl_len]; omega)]
theorem fsl_succ {α : Type} (f : Nat → α) (n : Nat) : fsl f (n + 1) = fsl f n ++ [f n] := by
  simp [fsl, List.range_succ]
/-- a cell: arrays of ints (0), of booleans (1), of references (2, 3); objects (number + 4): references first, then ints -/
def ent (cA : Nat → ClassId) (ad : Nat → Nat) (k : Nat × Nat) (r : Nat → Option Nat) (h : Nat → Int32) : va_E := match k with
  | (0, n) => .inl (cA 0, n, .inl h)
  | (1, n) => .inl (cA 1, n, .inl h)
  | (2, n) => .inl (cA 2, n, .inr (.inr (.inr (.inr (fun i => (r i).map ad)))))
  | (3, n) => .inl (cA 3, n, .inr (.inr (.inr (.inr (fun i => (r i).map ad)))))
  | (c + 4, _) => .inr (c, fsl (fun j => if j < nR c then va_rf ((r j).map ad) else .int (h j)) (nF c))
def wsf (cA : Nat → ClassId) (ad : Nat → Nat) (w : Wd) (o : Nat) : Nat × va_E := (ad o, ent cA ad (w.2.1 o) (w.2.2.1 o) (w.2.2.2 o))
def ws (cA : Nat → ClassId) (ad : Nat → Nat) (w : Wd) : va_W := fsl (wsf cA ad w) w.1
theorem ws_at {cA : Nat → ClassId} {ad : Nat → Nat} {w : Wd} {o : Nat} (h : o < w.1) : (ws cA ad w)[o]? = some (ad o, ent cA ad (w.2.1 o) (w.2.2.1 o) (w.2.2.2 o)) := fsl_get h
def up2 (h : Nat → Nat → Int32) (o k : Nat) (x : Int32) : Nat → Nat → Int32 := fun a => if a = o then upd (h o) k x else h a
def upR (r : Nat → Nat → Option Nat) (o k : Nat) (x : Option Nat) : Nat → Nat → Option Nat := fun a => if a = o then va_up (r o) k x else r a
theorem ws_put {cA : Nat → ClassId} {ad : Nat → Nat} {n : Nat} {kd : Nat → Nat × Nat} {r : Nat → Nat → Option Nat} {h : Nat → Nat → Int32} {o k : Nat} {x : Int32} {e : va_E} (he : ent cA ad (kd o) (r o) (upd (h o) k x) = e) : (ws cA ad (n, kd, r, h)).set o (ad o, e) = ws cA ad (n, kd, r, up2 h o k x) := by
  unfold ws
  rw [fsl_set]
  refine fsl_congr (fun j _ => ?_)
  by_cases hj : j = o
  · subst hj
    simp [wsf, up2, he]
  · simp [wsf, up2, hj]
theorem ws_putR {cA : Nat → ClassId} {ad : Nat → Nat} {n : Nat} {kd : Nat → Nat × Nat} {r : Nat → Nat → Option Nat} {h : Nat → Nat → Int32} {o k : Nat} {x : Option Nat} {e : va_E} (he : ent cA ad (kd o) (va_up (r o) k x) (h o) = e) : (ws cA ad (n, kd, r, h)).set o (ad o, e) = ws cA ad (n, kd, upR r o k x, h) := by
  unfold ws
  rw [fsl_set]
  refine fsl_congr (fun j _ => ?_)
  by_cases hj : j = o
  · subst hj
    simp [wsf, upR, he]
  · simp [wsf, upR, hj]
/-- references lead to cells of the world -/
def RefsOK (w : Wd) : Prop := ∀ j i o, w.2.2.1 j i = some o → o < w.1
theorem ws_push {cA : Nat → ClassId} {ad : Nat → Nat} {n q : Nat} {kd : Nat → Nat × Nat} {r : Nat → Nat → Option Nat} {h : Nat → Nat → Int32} {k : Nat × Nat} (hr : RefsOK (n, kd, r, h)) : ws cA (va_up ad n q) (n + 1, va_up kd n k, va_up r n (fun _ => none), va_up h n (fun _ => 0)) = ws cA ad (n, kd, r, h) ++ [(q, ent cA ad k (fun _ => none) (fun _ => 0))] := by
  have hm : ∀ (x : Option Nat), (∀ o, x = some o → o < n) → x.map (va_up ad n q) = x.map ad := by
    intro x hx
    cases x with
    | none => rfl
    | some o =>
      have := hx o rfl
      simp [va_up, Nat.ne_of_lt this]
  unfold ws
  show fsl _ (n + 1) = _
  rw [fsl_succ]
  congr 1
  · refine fsl_congr (fun j hj => ?_)
    have hj : j < n := hj
    have hne := Nat.ne_of_lt hj
    have hmm : ∀ i, (r j i).map (va_up ad n q) = (r j i).map ad := fun i => hm _ (fun o ho => hr j i o ho)
    simp only [wsf, va_up_ne _ _ hne]
    congr 1
    rcases hk : kd j with ⟨t, m⟩
    rcases t with _ | _ | _ | _ | c <;> simp only [ent, hmm]
  · simp only [wsf, va_up_self]
    congr 2
/-! the surroundings of a frame -/
abbrev En := Program × Launch × Env × Room × State × MethodId × Array Value × List Frame × Method × Code × va_G × (Nat → ClassId) × (Nat → Prop) × (State → Prop)
abbrev eP (E : En) := E.1
abbrev eL (E : En) := E.2.1
abbrev eE (E : En) := E.2.2.1
abbrev eR (E : En) := E.2.2.2.1
abbrev eS (E : En) := E.2.2.2.2.1
abbrev eM (E : En) := E.2.2.2.2.2.1
abbrev eA (E : En) := E.2.2.2.2.2.2.1
abbrev eB (E : En) := E.2.2.2.2.2.2.2.1
abbrev eT (E : En) := E.2.2.2.2.2.2.2.2.1
abbrev eC (E : En) := E.2.2.2.2.2.2.2.2.2.1
abbrev eD (E : En) := E.2.2.2.2.2.2.2.2.2.2.1
abbrev eK (E : En) := E.2.2.2.2.2.2.2.2.2.2.2.1
abbrev eF (E : En) := E.2.2.2.2.2.2.2.2.2.2.2.2.1
abbrev eQ (E : En) := E.2.2.2.2.2.2.2.2.2.2.2.2.2
abbrev Mi : Type := MethodName × ByteArray × Nat × Option FieldType
def tyL (cA : Nat → ClassId) : List (ClassId × FieldType) := [(cA 0, .int), (cA 1, .boolean), (cA 2, .object R_2), (cA 3, .object R_3)]
/-- what stands fast while a method runs -/
def Amb (u : Mi) (d : Nat) (E : En) : Prop :=
  (eP E).tables.exec = Jvm.exec ∧ (eC E).code = u.2.1 ∧ (eT E).sig.returnType = u.2.2.2 ∧ (eC E).maxLocals = u.2.2.1 ∧ (eT E).locks = false ∧ (eT E).name = u.1.name ∧
  (eS E).vm.findClass u.1.cls = some (eM E).cls ∧ (∀ w ∈ AllW, w.before (eA E) (eS E) = true) ∧ (∀ w ∈ NestW, va_Nw w (eS E)) ∧ va_K (eD E) classes (tyL (eK E)) (eS E) ∧
  (∀ q, (eS E).heap.size ≤ q → eF E q) ∧ d ≤ (eR E).frames ∧ 40 * d ≤ (eR E).locals
section AMB
variable {u : Mi} {d : Nat} {E : En}
theorem Amb.x (a : Amb u d E) : (eP E).tables.exec = Jvm.exec := a.1
theorem Amb.b (a : Amb u d E) : (eC E).code = u.2.1 := a.2.1
theorem Amb.r (a : Amb u d E) : (eT E).sig.returnType = u.2.2.2 := a.2.2.1
theorem Amb.ml (a : Amb u d E) : (eC E).maxLocals = u.2.2.1 := a.2.2.2.1
theorem Amb.lk (a : Amb u d E) : (eT E).locks = false := a.2.2.2.2.1
theorem Amb.nm (a : Amb u d E) : (eT E).name = u.1.name := a.2.2.2.2.2.1
theorem Amb.own (a : Amb u d E) : (eS E).vm.findClass u.1.cls = some (eM E).cls := a.2.2.2.2.2.2.1
theorem Amb.ts (a : Amb u d E) : ∀ w ∈ AllW, w.before (eA E) (eS E) = true := a.2.2.2.2.2.2.2.1
theorem Amb.ns (a : Amb u d E) : ∀ w ∈ NestW, va_Nw w (eS E) := a.2.2.2.2.2.2.2.2.1
theorem Amb.k (a : Amb u d E) : va_K (eD E) classes (tyL (eK E)) (eS E) := a.2.2.2.2.2.2.2.2.2.1
theorem Amb.fr (a : Amb u d E) : ∀ q, (eS E).heap.size ≤ q → eF E q := a.2.2.2.2.2.2.2.2.2.2.1
theorem Amb.fd (a : Amb u d E) : d ≤ (eR E).frames := a.2.2.2.2.2.2.2.2.2.2.2.1
theorem Amb.l (a : Amb u d E) : 40 * d ≤ (eR E).locals := a.2.2.2.2.2.2.2.2.2.2.2.2
end AMB
def lvc (ad : Nat → Nat) (lv : List (Nat × AV)) : List (Nat × Value) := lv.map (fun q => (q.1, cv ad q.2))
def look (lv : List (Nat × AV)) (i : Nat) : Option AV := (lv.find? (fun q => q.1 == i)).map (fun q => q.2)
def setL (lv : List (Nat × AV)) (i : Nat) (v : AV) : List (Nat × AV) := (i, v) :: lv.filter (fun q => !(q.1 == i))
theorem look_at {ad : Nat → Nat} {ls : Array Slot} {n i : Nat} {lv : List (Nat × AV)} {v : AV} (h : lv_has ls n (lvc ad lv)) (hl : look lv i = some v) : ls[i]? = some (.val (cv ad v)) := by
  unfold look at hl
  obtain ⟨q, hq, rfl⟩ := Option.map_eq_some_iff.mp hl
  have h1 := List.mem_of_find?_eq_some hq
  have h2 := List.find?_some hq
  have h3 : q.1 = i := by simpa using h2
  subst h3
  exact h.2.2 (q.1, cv ad q.2) (List.mem_map.mpr ⟨q, h1, rfl⟩)
theorem lvc_set (ad : Nat → Nat) (lv : List (Nat × AV)) (i : Nat) (v : AV) : (i, cv ad v) :: (lvc ad lv).filter (fun q => !(q.1 == i) && !(q.1 + 1 == i && q.2.category == 2)) = lvc ad (setL lv i v) := by
  unfold lvc setL
  rw [List.map_cons, List.filter_map]
  congr 2
  refine List.filter_congr (fun q _ => ?_)
  simp [cv_cat]
/-- from this frame and this world the machine comes to the end that is asked -/
def X (E : En) (cl sl : Nat) (ad : Nat → Nat) (w : Wd) (pc : Nat) (lv : List (Nat × AV)) (st : List AV) : Prop :=
  ∀ (H : Heap) (locs : List Loc) (ls : Array Slot), RefsOK w → va_P (eD E) classes (ws (eK E) ad w) H → va_D (eF E) (ws (eK E) ad w) → va_S (eF E) (eS E).heap H locs → lv_has ls (eC E).maxLocals (lvc ad lv) →
    W (eP E) (eL E) (eE E) (eR E) (eS E) (eM E) (eA E) (eB E) (eT E) (eC E) H locs cl sl (eQ E) (F0 (eM E) pc ls (st.map (cv ad)))
section XR
variable {u : Mi} {d : Nat} {E : En} {cl sl : Nat} {ad : Nat → Nat} {w : Wd} {lv : List (Nat × AV)} {st : List AV}
/-- fewer locals -/
theorem x_lv {pc : Nat} (lv' : List (Nat × AV)) (h : ∀ q ∈ lv', look lv q.1 = some q.2) (k : X E cl sl ad w pc lv' st) : X E cl sl ad w pc lv st := fun H locs ls hR hP hD hS hl => k H locs ls hR hP hD hS ⟨hl.1, hl.2.1, fun q hq => by
  obtain ⟨q', h1, rfl⟩ := List.mem_map.mp hq
  exact look_at hl (h q' h1)⟩
theorem x_widen {pc cl' sl' : Nat} (h1 : cl ≤ cl') (h2 : sl ≤ sl') (k : X E cl' sl' ad w pc lv st) : X E cl sl ad w pc lv st := fun H locs ls hR hP hD hS hl => W.widen h1 h2 (k H locs ls hR hP hD hS hl)
theorem x_iconst (a : Amb u d E) (pc : Nat) {n : Int} (v : Int32) (hdg : decode u.2.1 pc = .ok (.iconst n, 1)) (hv : Int32.ofInt n = v) (k : X E cl sl ad w (pc + 1) lv (.inl v :: st)) : X E cl sl ad w pc lv st :=
  fun H locs ls hR hP hD hS hl => lv_iconst a.x a.b hdg hv (k H locs ls hR hP hD hS hl)
theorem x_bipush (a : Amb u d E) (pc : Nat) {n : Int} (v : Int32) (hdg : decode u.2.1 pc = .ok (.bipush n, 2)) (hv : (Int8.ofInt n).toInt32 = v) (k : X E cl sl ad w (pc + 2) lv (.inl v :: st)) : X E cl sl ad w pc lv st :=
  fun H locs ls hR hP hD hS hl => lv_bipush a.x a.b hdg hv (k H locs ls hR hP hD hS hl)
theorem x_sipush (a : Amb u d E) (pc : Nat) {n : Int} (v : Int32) (hdg : decode u.2.1 pc = .ok (.sipush n, 3)) (hv : (Int16.ofInt n).toInt32 = v) (k : X E cl sl ad w (pc + 3) lv (.inl v :: st)) : X E cl sl ad w pc lv st :=
  fun H locs ls hR hP hD hS hl => lv_sipush a.x a.b hdg hv (k H locs ls hR hP hD hS hl)
theorem x_iload_n (a : Amb u d E) (pc : Nat) {i : Fin 4} {x : Int32} (hdg : decode u.2.1 pc = .ok (.iload_n i, 1)) (hi : look lv i = some (.inl x)) (k : X E cl sl ad w (pc + 1) lv (.inl x :: st)) : X E cl sl ad w pc lv st :=
  fun H locs ls hR hP hD hS hl => lv_iload_n a.x a.b hdg rfl (look_at hl hi) (k H locs ls hR hP hD hS hl)
theorem x_iload (a : Amb u d E) (pc : Nat) {i : Nat} {x : Int32} (hdg : decode u.2.1 pc = .ok (.iload i, 2)) (hi : look lv i = some (.inl x)) (k : X E cl sl ad w (pc + 2) lv (.inl x :: st)) : X E cl sl ad w pc lv st :=
  fun H locs ls hR hP hD hS hl => lv_iload a.x a.b hdg (look_at hl hi) (k H locs ls hR hP hD hS hl)
theorem x_aload_n (a : Amb u d E) (pc : Nat) {i : Fin 4} {o : Nat} (hdg : decode u.2.1 pc = .ok (.aload_n i, 1)) (hi : look lv i = some (.inr (some o))) (k : X E cl sl ad w (pc + 1) lv (.inr (some o) :: st)) : X E cl sl ad w pc lv st :=
  fun H locs ls hR hP hD hS hl => lv_aload_n a.x a.b hdg rfl (look_at hl hi) (k H locs ls hR hP hD hS hl)
theorem x_aload (a : Amb u d E) (pc : Nat) {i : Nat} {o : Nat} (hdg : decode u.2.1 pc = .ok (.aload i, 2)) (hi : look lv i = some (.inr (some o))) (k : X E cl sl ad w (pc + 2) lv (.inr (some o) :: st)) : X E cl sl ad w pc lv st :=
  fun H locs ls hR hP hD hS hl => lv_aload a.x a.b hdg (look_at hl hi) (k H locs ls hR hP hD hS hl)
theorem x_istore_n (a : Amb u d E) (pc : Nat) {i : Fin 4} {x : Int32} (hdg : decode u.2.1 pc = .ok (.istore_n i, 1)) (hn : (i : Nat) < u.2.2.1) (k : X E cl sl ad w (pc + 1) (setL lv i (.inl x)) st) : X E cl sl ad w pc lv (.inl x :: st) :=
  fun H locs ls hR hP hD hS hl => lv_istore_n a.x a.b hdg rfl hl (by rw [a.ml]; exact hn) (lvc_set ad lv i (.inl x)) (fun ls' hl' => k H locs ls' hR hP hD hS hl')
theorem x_istore (a : Amb u d E) (pc : Nat) {i : Nat} {x : Int32} (hdg : decode u.2.1 pc = .ok (.istore i, 2)) (hn : i < u.2.2.1) (k : X E cl sl ad w (pc + 2) (setL lv i (.inl x)) st) : X E cl sl ad w pc lv (.inl x :: st) :=
  fun H locs ls hR hP hD hS hl => lv_istore a.x a.b hdg hl (by rw [a.ml]; exact hn) (lvc_set ad lv i (.inl x)) (fun ls' hl' => k H locs ls' hR hP hD hS hl')
theorem x_astore_n (a : Amb u d E) (pc : Nat) {i : Fin 4} {o : Nat} (hdg : decode u.2.1 pc = .ok (.astore_n i, 1)) (hn : (i : Nat) < u.2.2.1) (k : X E cl sl ad w (pc + 1) (setL lv i (.inr (some o))) st) : X E cl sl ad w pc lv (.inr (some o) :: st) :=
  fun H locs ls hR hP hD hS hl => lv_astore_n a.x a.b hdg rfl hl (by rw [a.ml]; exact hn) (lvc_set ad lv i (.inr (some o))) (fun ls' hl' => k H locs ls' hR hP hD hS hl')
theorem x_astore (a : Amb u d E) (pc : Nat) {i : Nat} {o : Nat} (hdg : decode u.2.1 pc = .ok (.astore i, 2)) (hn : i < u.2.2.1) (k : X E cl sl ad w (pc + 2) (setL lv i (.inr (some o))) st) : X E cl sl ad w pc lv (.inr (some o) :: st) :=
  fun H locs ls hR hP hD hS hl => lv_astore a.x a.b hdg hl (by rw [a.ml]; exact hn) (lvc_set ad lv i (.inr (some o))) (fun ls' hl' => k H locs ls' hR hP hD hS hl')
theorem x_iinc (a : Amb u d E) (pc : Nat) {i : Nat} {n : Int} {x : Int32} (v : Int32) (hdg : decode u.2.1 pc = .ok (.iinc i n, 3)) (hi : look lv i = some (.inl x)) (hv : x + Int32.ofInt n = v) (hn : i < u.2.2.1) (k : X E cl sl ad w (pc + 3) (setL lv i (.inl v)) st) : X E cl sl ad w pc lv st := by
  intro H locs ls hR hP hD hS hl
  have hl2 : lv_has ls (eC E).maxLocals ((i, .int x) :: lvc ad lv) := ⟨hl.1, hl.2.1, fun q hq => by
    rcases List.mem_cons.mp hq with rfl | hq
    · exact look_at hl hi
    · exact hl.2.2 q hq⟩
  refine lv_iinc (k := 0) a.x a.b hdg hl2 rfl hv (by rw [a.ml]; exact hn) (lv' := lvc ad (setL lv i (.inl v))) ?_ (fun ls' hl' => k H locs ls' hR hP hD hS hl')
  rw [← lvc_set]
  simp [cv]
theorem x_iadd (a : Amb u d E) (pc : Nat) {x y : Int32} (hdg : decode u.2.1 pc = .ok (.iadd, 1)) (k : X E cl sl ad w (pc + 1) lv (.inl (x + y) :: st)) : X E cl sl ad w pc lv (.inl y :: .inl x :: st) :=
  fun H locs ls hR hP hD hS hl => lv_iadd a.x a.b hdg (k H locs ls hR hP hD hS hl)
theorem x_isub (a : Amb u d E) (pc : Nat) {x y : Int32} (hdg : decode u.2.1 pc = .ok (.isub, 1)) (k : X E cl sl ad w (pc + 1) lv (.inl (x - y) :: st)) : X E cl sl ad w pc lv (.inl y :: .inl x :: st) :=
  fun H locs ls hR hP hD hS hl => lv_isub a.x a.b hdg (k H locs ls hR hP hD hS hl)
theorem x_imul (a : Amb u d E) (pc : Nat) {x y : Int32} (hdg : decode u.2.1 pc = .ok (.imul, 1)) (k : X E cl sl ad w (pc + 1) lv (.inl (x * y) :: st)) : X E cl sl ad w pc lv (.inl y :: .inl x :: st) :=
  fun H locs ls hR hP hD hS hl => lv_imul a.x a.b hdg (k H locs ls hR hP hD hS hl)
theorem x_iand (a : Amb u d E) (pc : Nat) {x y : Int32} (hdg : decode u.2.1 pc = .ok (.iand, 1)) (k : X E cl sl ad w (pc + 1) lv (.inl (x &&& y) :: st)) : X E cl sl ad w pc lv (.inl y :: .inl x :: st) :=
  fun H locs ls hR hP hD hS hl => lv_iand a.x a.b hdg (k H locs ls hR hP hD hS hl)
theorem x_ixor (a : Amb u d E) (pc : Nat) {x y : Int32} (hdg : decode u.2.1 pc = .ok (.ixor, 1)) (k : X E cl sl ad w (pc + 1) lv (.inl (x ^^^ y) :: st)) : X E cl sl ad w pc lv (.inl y :: .inl x :: st) :=
  fun H locs ls hR hP hD hS hl => lv_ixor a.x a.b hdg (k H locs ls hR hP hD hS hl)
theorem x_irem (a : Amb u d E) (pc : Nat) {x y : Int32} (hdg : decode u.2.1 pc = .ok (.irem, 1)) (hne : ¬ y = 0) (k : X E cl sl ad w (pc + 1) lv (.inl (x - x / y * y) :: st)) : X E cl sl ad w pc lv (.inl y :: .inl x :: st) :=
  fun H locs ls hR hP hD hS hl => lv_irem a.x a.b hdg hne (k H locs ls hR hP hD hS hl)
theorem x_dup (a : Amb u d E) (pc : Nat) {x : AV} (hdg : decode u.2.1 pc = .ok (.dup, 1)) (k : X E cl sl ad w (pc + 1) lv (x :: x :: st)) : X E cl sl ad w pc lv (x :: st) :=
  fun H locs ls hR hP hD hS hl => lv_dup a.x a.b hdg (cv_cat ad x) (k H locs ls hR hP hD hS hl)
theorem x_pop (a : Amb u d E) (pc : Nat) {x : AV} (hdg : decode u.2.1 pc = .ok (.pop, 1)) (k : X E cl sl ad w (pc + 1) lv st) : X E cl sl ad w pc lv (x :: st) :=
  fun H locs ls hR hP hD hS hl => lv_pop a.x a.b hdg (cv_cat ad x) (k H locs ls hR hP hD hS hl)
theorem x_dup_x1 (a : Amb u d E) (pc : Nat) {x y : AV} (hdg : decode u.2.1 pc = .ok (.dup_x1, 1)) (k : X E cl sl ad w (pc + 1) lv (x :: y :: x :: st)) : X E cl sl ad w pc lv (x :: y :: st) :=
  fun H locs ls hR hP hD hS hl => lv_dup_x1 a.x a.b hdg (cv_cat ad x) (cv_cat ad y) (k H locs ls hR hP hD hS hl)
theorem x_dup_x2 (a : Amb u d E) (pc : Nat) {x y z : AV} (hdg : decode u.2.1 pc = .ok (.dup_x2, 1)) (k : X E cl sl ad w (pc + 1) lv (x :: y :: z :: x :: st)) : X E cl sl ad w pc lv (x :: y :: z :: st) :=
  fun H locs ls hR hP hD hS hl => lv_dup_x2 a.x a.b hdg (cv_cat ad x) (cv_cat ad y) (cv_cat ad z) (k H locs ls hR hP hD hS hl)
theorem x_dup2 (a : Amb u d E) (pc : Nat) {x y : AV} (hdg : decode u.2.1 pc = .ok (.dup2, 1)) (k : X E cl sl ad w (pc + 1) lv (x :: y :: x :: y :: st)) : X E cl sl ad w pc lv (x :: y :: st) :=
  fun H locs ls hR hP hD hS hl => lv_dup2_11 a.x a.b hdg (cv_cat ad x) (cv_cat ad y) (k H locs ls hR hP hD hS hl)
theorem x_goto (a : Amb u d E) (pc tgt : Nat) {off : Int} (hdg : decode u.2.1 pc = .ok (.goto off, 3)) (ht : (pc : Int) + off = (tgt : Int)) (k : X E cl sl ad w tgt lv st) : X E cl sl ad w pc lv st :=
  fun H locs ls hR hP hD hS hl => lv_goto a.x a.b hdg ht (k H locs ls hR hP hD hS hl)
theorem x_if_eq (a : Amb u d E) (pc tgt : Nat) {off : Int} {x : Int32} (hdg : decode u.2.1 pc = .ok (.ifCond .eq off, 3)) (ht : (pc : Int) + off = (tgt : Int)) (kt : x = 0 → X E cl sl ad w tgt lv st) (kf : ¬ x = 0 → X E cl sl ad w (pc + 3) lv st) : X E cl sl ad w pc lv (.inl x :: st) :=
  fun H locs ls hR hP hD hS hl => lv_if_eq a.x a.b hdg ht (fun z => kt z H locs ls hR hP hD hS hl) (fun z => kf z H locs ls hR hP hD hS hl)
theorem x_icmp_eq (a : Amb u d E) (pc tgt : Nat) {off : Int} {x y : Int32} (hdg : decode u.2.1 pc = .ok (.if_icmp .eq off, 3)) (ht : (pc : Int) + off = (tgt : Int)) (kt : x = y → X E cl sl ad w tgt lv st) (kf : ¬ x = y → X E cl sl ad w (pc + 3) lv st) : X E cl sl ad w pc lv (.inl y :: .inl x :: st) :=
  fun H locs ls hR hP hD hS hl => lv_icmp_eq a.x a.b hdg ht (fun z => kt z H locs ls hR hP hD hS hl) (fun z => kf z H locs ls hR hP hD hS hl)
theorem x_if_ne (a : Amb u d E) (pc tgt : Nat) {off : Int} {x : Int32} (hdg : decode u.2.1 pc = .ok (.ifCond .ne off, 3)) (ht : (pc : Int) + off = (tgt : Int)) (kt : ¬ x = 0 → X E cl sl ad w tgt lv st) (kf : x = 0 → X E cl sl ad w (pc + 3) lv st) : X E cl sl ad w pc lv (.inl x :: st) :=
  fun H locs ls hR hP hD hS hl => lv_if_ne a.x a.b hdg ht (fun z => kt z H locs ls hR hP hD hS hl) (fun z => kf z H locs ls hR hP hD hS hl)
theorem x_icmp_ne (a : Amb u d E) (pc tgt : Nat) {off : Int} {x y : Int32} (hdg : decode u.2.1 pc = .ok (.if_icmp .ne off, 3)) (ht : (pc : Int) + off = (tgt : Int)) (kt : ¬ x = y → X E cl sl ad w tgt lv st) (kf : x = y → X E cl sl ad w (pc + 3) lv st) : X E cl sl ad w pc lv (.inl y :: .inl x :: st) :=
  fun H locs ls hR hP hD hS hl => lv_icmp_ne a.x a.b hdg ht (fun z => kt z H locs ls hR hP hD hS hl) (fun z => kf z H locs ls hR hP hD hS hl)
theorem x_if_lt (a : Amb u d E) (pc tgt : Nat) {off : Int} {x : Int32} (hdg : decode u.2.1 pc = .ok (.ifCond .lt off, 3)) (ht : (pc : Int) + off = (tgt : Int)) (kt : x < 0 → X E cl sl ad w tgt lv st) (kf : ¬ x < 0 → X E cl sl ad w (pc + 3) lv st) : X E cl sl ad w pc lv (.inl x :: st) :=
  fun H locs ls hR hP hD hS hl => lv_if_lt a.x a.b hdg ht (fun z => kt z H locs ls hR hP hD hS hl) (fun z => kf z H locs ls hR hP hD hS hl)
theorem x_icmp_lt (a : Amb u d E) (pc tgt : Nat) {off : Int} {x y : Int32} (hdg : decode u.2.1 pc = .ok (.if_icmp .lt off, 3)) (ht : (pc : Int) + off = (tgt : Int)) (kt : x < y → X E cl sl ad w tgt lv st) (kf : ¬ x < y → X E cl sl ad w (pc + 3) lv st) : X E cl sl ad w pc lv (.inl y :: .inl x :: st) :=
  fun H locs ls hR hP hD hS hl => lv_icmp_lt a.x a.b hdg ht (fun z => kt z H locs ls hR hP hD hS hl) (fun z => kf z H locs ls hR hP hD hS hl)
theorem x_if_ge (a : Amb u d E) (pc tgt : Nat) {off : Int} {x : Int32} (hdg : decode u.2.1 pc = .ok (.ifCond .ge off, 3)) (ht : (pc : Int) + off = (tgt : Int)) (kt : 0 ≤ x → X E cl sl ad w tgt lv st) (kf : ¬ 0 ≤ x → X E cl sl ad w (pc + 3) lv st) : X E cl sl ad w pc lv (.inl x :: st) :=
  fun H locs ls hR hP hD hS hl => lv_if_ge a.x a.b hdg ht (fun z => kt z H locs ls hR hP hD hS hl) (fun z => kf z H locs ls hR hP hD hS hl)
theorem x_icmp_ge (a : Amb u d E) (pc tgt : Nat) {off : Int} {x y : Int32} (hdg : decode u.2.1 pc = .ok (.if_icmp .ge off, 3)) (ht : (pc : Int) + off = (tgt : Int)) (kt : y ≤ x → X E cl sl ad w tgt lv st) (kf : ¬ y ≤ x → X E cl sl ad w (pc + 3) lv st) : X E cl sl ad w pc lv (.inl y :: .inl x :: st) :=
  fun H locs ls hR hP hD hS hl => lv_icmp_ge a.x a.b hdg ht (fun z => kt z H locs ls hR hP hD hS hl) (fun z => kf z H locs ls hR hP hD hS hl)
theorem x_if_gt (a : Amb u d E) (pc tgt : Nat) {off : Int} {x : Int32} (hdg : decode u.2.1 pc = .ok (.ifCond .gt off, 3)) (ht : (pc : Int) + off = (tgt : Int)) (kt : 0 < x → X E cl sl ad w tgt lv st) (kf : ¬ 0 < x → X E cl sl ad w (pc + 3) lv st) : X E cl sl ad w pc lv (.inl x :: st) :=
  fun H locs ls hR hP hD hS hl => lv_if_gt a.x a.b hdg ht (fun z => kt z H locs ls hR hP hD hS hl) (fun z => kf z H locs ls hR hP hD hS hl)
theorem x_icmp_gt (a : Amb u d E) (pc tgt : Nat) {off : Int} {x y : Int32} (hdg : decode u.2.1 pc = .ok (.if_icmp .gt off, 3)) (ht : (pc : Int) + off = (tgt : Int)) (kt : y < x → X E cl sl ad w tgt lv st) (kf : ¬ y < x → X E cl sl ad w (pc + 3) lv st) : X E cl sl ad w pc lv (.inl y :: .inl x :: st) :=
  fun H locs ls hR hP hD hS hl => lv_icmp_gt a.x a.b hdg ht (fun z => kt z H locs ls hR hP hD hS hl) (fun z => kf z H locs ls hR hP hD hS hl)
theorem x_if_le (a : Amb u d E) (pc tgt : Nat) {off : Int} {x : Int32} (hdg : decode u.2.1 pc = .ok (.ifCond .le off, 3)) (ht : (pc : Int) + off = (tgt : Int)) (kt : x ≤ 0 → X E cl sl ad w tgt lv st) (kf : ¬ x ≤ 0 → X E cl sl ad w (pc + 3) lv st) : X E cl sl ad w pc lv (.inl x :: st) :=
  fun H locs ls hR hP hD hS hl => lv_if_le a.x a.b hdg ht (fun z => kt z H locs ls hR hP hD hS hl) (fun z => kf z H locs ls hR hP hD hS hl)
theorem x_icmp_le (a : Amb u d E) (pc tgt : Nat) {off : Int} {x y : Int32} (hdg : decode u.2.1 pc = .ok (.if_icmp .le off, 3)) (ht : (pc : Int) + off = (tgt : Int)) (kt : x ≤ y → X E cl sl ad w tgt lv st) (kf : ¬ x ≤ y → X E cl sl ad w (pc + 3) lv st) : X E cl sl ad w pc lv (.inl y :: .inl x :: st) :=
  fun H locs ls hR hP hD hS hl => lv_icmp_le a.x a.b hdg ht (fun z => kt z H locs ls hR hP hD hS hl) (fun z => kf z H locs ls hR hP hD hS hl)
theorem x_tableOut (a : Amb u d E) (pc tgt : Nat) {dflt lo hi : Int} {offs : Array Int} {len : Nat} {x : Int32} (hdg : decode u.2.1 pc = .ok (.tableswitch dflt lo hi offs, len)) (h : x.toInt < lo ∨ hi < x.toInt) (ht : (pc : Int) + dflt = (tgt : Int)) (k : X E cl sl ad w tgt lv st) : X E cl sl ad w pc lv (.inl x :: st) :=
  fun H locs ls hR hP hD hS hl => lv_tableOut a.x a.b hdg h ht (k H locs ls hR hP hD hS hl)
theorem x_tableIn (a : Amb u d E) (pc tgt : Nat) {dflt lo hi : Int} {offs : Array Int} {len : Nat} {x : Int32} (off : Int) (hdg : decode u.2.1 pc = .ok (.tableswitch dflt lo hi offs, len)) (h1 : ¬ x.toInt < lo) (h2 : ¬ hi < x.toInt) (ho : offs[(x.toInt - lo).toNat]? = some off) (ht : (pc : Int) + off = (tgt : Int)) (k : X E cl sl ad w tgt lv st) : X E cl sl ad w pc lv (.inl x :: st) :=
  fun H locs ls hR hP hD hS hl => lv_tableIn a.x a.b hdg h1 h2 ho ht (k H locs ls hR hP hD hS hl)
theorem x_lookup (a : Amb u d E) (pc tgt : Nat) {dflt : Int} {ps : Array (Int × Int)} {len : Nat} {x : Int32} (off : Int) (hdg : decode u.2.1 pc = .ok (.lookupswitch dflt ps, len)) (hp : (ps.toList.zip (ps.toList.drop 1)).all (fun (a, next) => a.1 < next.1) = true) (ho : Op.lookupswitch.offset ps.toList dflt x.toInt = off) (ht : (pc : Int) + off = (tgt : Int)) (k : X E cl sl ad w tgt lv st) : X E cl sl ad w pc lv (.inl x :: st) :=
  fun H locs ls hR hP hD hS hl => lv_lookup a.x a.b hdg hp ho ht (k H locs ls hR hP hD hS hl)
end XR
/-! fields -/
def cls (ci : Nat) : vw_C := classes.getD ci ("", fun _ => ("", "", "", false), 0)
def LayOK (ci : Nat) : Prop := classes[ci]? = some (cls ci) ∧ (∀ w ∈ u_ws (cls ci).1 (cls ci).2.1 (cls ci).2.2, w ∈ AllW) ∧ (∀ j, j < (cls ci).2.2 → parseFieldDescriptor ((cls ci).2.1 j).2.2.1 = some (fT ci j)) ∧
  (∀ a, a < (cls ci).2.2 → ∀ b, b < (cls ci).2.2 → a ≠ b → ((cls ci).2.1 a).2.1 ≠ ((cls ci).2.1 b).2.1) ∧ (cls ci).2.2 = nF ci
/-- the field link at this place of the pool of own is field k of the objects of number ci -/
def FR (own : String) (index ci k : Nat) : Prop := LayOK ci ∧ k < nF ci ∧ Cond.fieldLink own index ((cls ci).2.1 k).1 ((cls ci).2.1 k).2.1 ((cls ci).2.1 k).2.2.1 ∈ AllW
section XF
variable {u : Mi} {d : Nat} {E : En} {cl sl : Nat} {ad : Nat → Nat} {n : Nat} {kd : Nat → Nat × Nat} {r : Nat → Nat → Option Nat} {h : Nat → Nat → Int32} {lv : List (Nat × AV)} {st : List AV}
theorem ent_obj {cA : Nat → ClassId} {k : Nat × Nat} {ci : Nat} {r : Nat → Option Nat} {h : Nat → Int32} (hk : k.1 = ci + 4) : ent cA ad k r h = .inr (ci, fsl (fun j => if j < nR ci then va_rf ((r j).map ad) else .int (h j)) (nF ci)) := by
  obtain ⟨t, m⟩ := k
  have hk : t = ci + 4 := hk
  subst hk
  rfl
theorem x_getI (a : Amb u d E) (pc : Nat) {index ci k o : Nat} (f : FR u.1.cls index ci k) (hdg : decode u.2.1 pc = .ok (.getfield index, 3)) (hk : (kd o).1 = ci + 4) (ho : o < n) (hn : ¬ k < nR ci) {v : Int32} (hv : h o k = v) (kk : X E cl sl ad (n, kd, r, h) (pc + 3) lv (.inl v :: st)) : X E cl sl ad (n, kd, r, h) pc lv (.inr (some o) :: st) := by
  intro H locs ls hR hP hD hS hl
  subst hv
  obtain ⟨⟨hc, hin, hty, hnm, hN⟩, hkn, hlink⟩ := f
  refine va_get (D := eD E) (ci := ci) (C := (cls ci).1) (T := (cls ci).2.1) (N := (cls ci).2.2) (v := .int (h o k)) (fs := fsl (fun j => if j < nR ci then va_rf ((r o j).map ad) else .int (h o j)) (nF ci)) a.x a.b a.ts hin a.own a.k hP o ?_ hc k (by rw [hN]; exact hkn) (a.ts _ hlink) (fun _ z => z) ?_ hdg (kk H locs ls hR hP hD hS hl)
  · rw [ws_at ho]
    show some (ad o, ent _ _ (kd o) _ _) = _
    rw [ent_obj hk]
  · rw [fsl_get hkn, if_neg hn]
theorem x_getR (a : Amb u d E) (pc : Nat) {index ci k o o' : Nat} (f : FR u.1.cls index ci k) (hdg : decode u.2.1 pc = .ok (.getfield index, 3)) (hk : (kd o).1 = ci + 4) (ho : o < n) (hn : k < nR ci) (hr : r o k = some o') (kk : X E cl sl ad (n, kd, r, h) (pc + 3) lv (.inr (some o') :: st)) : X E cl sl ad (n, kd, r, h) pc lv (.inr (some o) :: st) := by
  intro H locs ls hR hP hD hS hl
  obtain ⟨⟨hc, hin, hty, hnm, hN⟩, hkn, hlink⟩ := f
  refine va_get (D := eD E) (ci := ci) (C := (cls ci).1) (T := (cls ci).2.1) (N := (cls ci).2.2) (v := .ref (ad o')) (fs := fsl (fun j => if j < nR ci then va_rf ((r o j).map ad) else .int (h o j)) (nF ci)) a.x a.b a.ts hin a.own a.k hP o ?_ hc k (by rw [hN]; exact hkn) (a.ts _ hlink) (fun _ z => z) ?_ hdg (kk H locs ls hR hP hD hS hl)
  · rw [ws_at ho]
    show some (ad o, ent _ _ (kd o) _ _) = _
    rw [ent_obj hk]
  · rw [fsl_get hkn, if_pos hn, hr]
    rfl
theorem ent_putI {cA : Nat → ClassId} {k : Nat × Nat} {ci i : Nat} {r : Nat → Option Nat} {h : Nat → Int32} {x : Int32} (hk : k.1 = ci + 4) (hn : ¬ i < nR ci) : ent cA ad k r (upd h i x) = .inr (ci, (fsl (fun j => if j < nR ci then va_rf ((r j).map ad) else .int (h j)) (nF ci)).set i (.int x)) := by
  rw [ent_obj hk, fsl_set]
  congr 2
  refine fsl_congr (fun j _ => ?_)
  by_cases hj : j = i
  · subst hj
    simp [hn, upd]
  · simp [hj, upd]
theorem x_putI (a : Amb u d E) (pc : Nat) {index ci k o : Nat} {x : Int32} (f : FR u.1.cls index ci k) (hdg : decode u.2.1 pc = .ok (.putfield index, 3)) (hk : (kd o).1 = ci + 4) (ho : o < n) (hn : ¬ k < nR ci) (hfin : ((cls ci).2.1 k).2.2.2 = false) (hnar : narrow (fT ci k) (.int x) = .int x) (hfit : fits (fT ci k) (.int x) = true) (kk : X E cl sl ad (n, kd, r, up2 h o k x) (pc + 3) lv st) : X E cl sl ad (n, kd, r, h) pc lv (.inl x :: .inr (some o) :: st) := by
  intro H locs ls hR hP hD hS hl
  obtain ⟨⟨hc, hin, hty, hnm, hN⟩, hkn, hlink⟩ := f
  refine va_put (D := eD E) (ci := ci) (C := (cls ci).1) (T := (cls ci).2.1) (N := (cls ci).2.2) (v := .int x) (fs := fsl (fun j => if j < nR ci then va_rf ((r o j).map ad) else .int (h o j)) (nF ci)) a.x a.b a.ts hin (fT ci) hty hnm a.own a.k hP hD hS o ?_ hc k (by rw [hN]; exact hkn) (a.ts _ hlink) (fun _ z => z) hfin (hty k (by rw [hN]; exact hkn)) hnar hfit (by rw [fsl_len]; exact hkn) hdg (fun H1 locs1 hP1 hD1 hS1 => ?_)
  · rw [ws_at ho]
    show some (ad o, ent _ _ (kd o) _ _) = _
    rw [ent_obj hk]
  · rw [ws_put (ent_putI hk hn)] at hP1 hD1
    exact kk H1 locs1 ls hR hP1 hD1 hS1 hl
theorem x_putFI (a : Amb u d E) (pc : Nat) {index ci k o : Nat} {x : Int32} (f : FR u.1.cls index ci k) (hdg : decode u.2.1 pc = .ok (.putfield index, 3)) (hk : (kd o).1 = ci + 4) (ho : o < n) (hn : ¬ k < nR ci) (hfin : ((cls ci).2.1 k).2.2.2 = true) (hin2 : u.1.name = "<init>") (hdecl : ((cls ci).2.1 k).1 = u.1.cls) (hnar : narrow (fT ci k) (.int x) = .int x) (hfit : fits (fT ci k) (.int x) = true) (kk : X E cl sl ad (n, kd, r, up2 h o k x) (pc + 3) lv st) : X E cl sl ad (n, kd, r, h) pc lv (.inl x :: .inr (some o) :: st) := by
  intro H locs ls hR hP hD hS hl
  obtain ⟨⟨hc, hin, hty, hnm, hN⟩, hkn, hlink⟩ := f
  refine va_putF (D := eD E) (ci := ci) (C := (cls ci).1) (T := (cls ci).2.1) (N := (cls ci).2.2) (v := .int x) (fs := fsl (fun j => if j < nR ci then va_rf ((r o j).map ad) else .int (h o j)) (nF ci)) a.x a.b a.ts hin (fT ci) hty hnm a.own a.k hP hD hS o ?_ hc k (by rw [hN]; exact hkn) (a.ts _ hlink) (fun _ z => z) hfin (a.nm.trans hin2) hdecl (hty k (by rw [hN]; exact hkn)) hnar hfit (by rw [fsl_len]; exact hkn) hdg (fun H1 locs1 hP1 hD1 hS1 => ?_)
  · rw [ws_at ho]
    show some (ad o, ent _ _ (kd o) _ _) = _
    rw [ent_obj hk]
  · rw [ws_put (ent_putI hk hn)] at hP1 hD1
    exact kk H1 locs1 ls hR hP1 hD1 hS1 hl
theorem ent_putR {cA : Nat → ClassId} {k : Nat × Nat} {ci i o' : Nat} {r : Nat → Option Nat} {h : Nat → Int32} (hk : k.1 = ci + 4) (hn : i < nR ci) : ent cA ad k (va_up r i (some o')) h = .inr (ci, (fsl (fun j => if j < nR ci then va_rf ((r j).map ad) else .int (h j)) (nF ci)).set i (.ref (ad o'))) := by
  rw [ent_obj hk, fsl_set]
  congr 2
  refine fsl_congr (fun j _ => ?_)
  by_cases hj : j = i
  · subst hj
    simp [hn, va_up, va_rf]
  · simp [hj, va_up]
theorem refs_up {o k o' : Nat} (hR : RefsOK (n, kd, r, h)) (ho' : o' < n) : RefsOK (n, kd, upR r o k (some o'), h) := by
  intro j i q hq
  have hq : upR r o k (some o') j i = some q := hq
  show q < n
  unfold upR at hq
  by_cases hj : j = o
  · rw [if_pos hj] at hq
    by_cases hi : i = k
    · subst hi
      rw [va_up_self] at hq
      cases hq
      exact ho'
    · rw [va_up_ne _ _ hi] at hq
      exact hR o i q hq
  · rw [if_neg hj] at hq
    exact hR j i q hq
/-- a final reference, in a constructor -/
theorem x_putFR (a : Amb u d E) (pc : Nat) {index ci k o o' : Nat} (f : FR u.1.cls index ci k) (hdg : decode u.2.1 pc = .ok (.putfield index, 3)) (hk : (kd o).1 = ci + 4) (ho : o < n) (hn : k < nR ci) (ho' : o' < n) (hfin : ((cls ci).2.1 k).2.2.2 = true) (hin2 : u.1.name = "<init>") (hdecl : ((cls ci).2.1 k).1 = u.1.cls) (hnar : ∀ q, narrow (fT ci k) (.ref q) = .ref q) (hfit : ∀ q, fits (fT ci k) (.ref q) = true) (kk : X E cl sl ad (n, kd, upR r o k (some o'), h) (pc + 3) lv st) : X E cl sl ad (n, kd, r, h) pc lv (.inr (some o') :: .inr (some o) :: st) := by
  intro H locs ls hR hP hD hS hl
  obtain ⟨⟨hc, hin, hty, hnm, hN⟩, hkn, hlink⟩ := f
  refine va_putF (D := eD E) (ci := ci) (C := (cls ci).1) (T := (cls ci).2.1) (N := (cls ci).2.2) (v := .ref (ad o')) (fs := fsl (fun j => if j < nR ci then va_rf ((r o j).map ad) else .int (h o j)) (nF ci)) a.x a.b a.ts hin (fT ci) hty hnm a.own a.k hP hD hS o ?_ hc k (by rw [hN]; exact hkn) (a.ts _ hlink) (fun _ z => z) hfin (a.nm.trans hin2) hdecl (hty k (by rw [hN]; exact hkn)) (hnar _) (hfit _) (by rw [fsl_len]; exact hkn) hdg (fun H1 locs1 hP1 hD1 hS1 => ?_)
  · rw [ws_at ho]
    show some (ad o, ent _ _ (kd o) _ _) = _
    rw [ent_obj hk]
  · rw [ws_putR (ent_putR hk hn)] at hP1 hD1
    exact kk H1 locs1 ls (refs_up hR ho') hP1 hD1 hS1 hl
/-! arrays -/
theorem x_iald (a : Amb u d E) (pc : Nat) {o len j : Nat} {i : Int32} (hdg : decode u.2.1 pc = .ok (.iaload, 1)) (hk : kd o = (0, len)) (ho : o < n) (hi : i = nI j) (hj : j < len) (hlen : len < 2 ^ 31) {v : Int32} (hv : h o j = v) (kk : X E cl sl ad (n, kd, r, h) (pc + 1) lv (.inl v :: st)) : X E cl sl ad (n, kd, r, h) pc lv (.inl i :: .inr (some o) :: st) := by
  intro H locs ls hR hP hD hS hl
  subst hv
  subst hi
  have e : (nI j).toNatClampNeg = j := nI_clamp (by omega)
  refine va_iald (n := len) (f := h o) (cA := eK E 0) a.x a.b a.k hP o 0 ?_ rfl (nI_in hj hlen) hdg ?_
  · rw [ws_at ho]
    show some (ad o, ent _ _ (kd o) _ _) = _
    rw [hk]
    rfl
  · rw [e]
    exact kk H locs ls hR hP hD hS hl
theorem x_zald (a : Amb u d E) (pc : Nat) {o len j : Nat} {i : Int32} (hdg : decode u.2.1 pc = .ok (.baload, 1)) (hk : kd o = (1, len)) (ho : o < n) (hi : i = nI j) (hj : j < len) (hlen : len < 2 ^ 31) {v : Int32} (hv : h o j = v) (kk : X E cl sl ad (n, kd, r, h) (pc + 1) lv (.inl v :: st)) : X E cl sl ad (n, kd, r, h) pc lv (.inl i :: .inr (some o) :: st) := by
  intro H locs ls hR hP hD hS hl
  subst hv
  subst hi
  have e : (nI j).toNatClampNeg = j := nI_clamp (by omega)
  refine va_zald (n := len) (f := h o) (cA := eK E 1) a.x a.b a.k hP o 1 ?_ rfl (nI_in hj hlen) hdg ?_
  · rw [ws_at ho]
    show some (ad o, ent _ _ (kd o) _ _) = _
    rw [hk]
    rfl
  · rw [e]
    exact kk H locs ls hR hP hD hS hl
theorem x_iast (a : Amb u d E) (pc : Nat) {o len j : Nat} {i x : Int32} (hdg : decode u.2.1 pc = .ok (.iastore, 1)) (hk : kd o = (0, len)) (ho : o < n) (hi : i = nI j) (hj : j < len) (hlen : len < 2 ^ 31) (kk : X E cl sl ad (n, kd, r, up2 h o j x) (pc + 1) lv st) : X E cl sl ad (n, kd, r, h) pc lv (.inl x :: .inl i :: .inr (some o) :: st) := by
  intro H locs ls hR hP hD hS hl
  subst hi
  have e : (nI j).toNatClampNeg = j := nI_clamp (by omega)
  refine va_iast (n := len) (f := h o) (cA := eK E 0) a.x a.b a.k hP hD hS o 0 ?_ rfl (nI_in hj hlen) hdg (fun H1 locs1 hP1 hD1 hS1 => ?_)
  · rw [ws_at ho]
    show some (ad o, ent _ _ (kd o) _ _) = _
    rw [hk]
    rfl
  · rw [e, ws_put (by rw [hk]; rfl)] at hP1 hD1
    exact kk H1 locs1 ls hR hP1 hD1 hS1 hl
theorem x_zast (a : Amb u d E) (pc : Nat) {o len j : Nat} {i x : Int32} (hdg : decode u.2.1 pc = .ok (.bastore, 1)) (hk : kd o = (1, len)) (ho : o < n) (hi : i = nI j) (hj : j < len) (hlen : len < 2 ^ 31) (hx : vp_nar .boolean x = x) (kk : X E cl sl ad (n, kd, r, up2 h o j x) (pc + 1) lv st) : X E cl sl ad (n, kd, r, h) pc lv (.inl x :: .inl i :: .inr (some o) :: st) := by
  intro H locs ls hR hP hD hS hl
  subst hi
  have e : (nI j).toNatClampNeg = j := nI_clamp (by omega)
  refine va_zast (n := len) (f := h o) (cA := eK E 1) a.x a.b a.k hP hD hS o 1 ?_ rfl (nI_in hj hlen) hdg (fun H1 locs1 hP1 hD1 hS1 => ?_)
  · rw [ws_at ho]
    show some (ad o, ent _ _ (kd o) _ _) = _
    rw [hk]
    rfl
  · rw [e, hx, ws_put (by rw [hk]; rfl)] at hP1 hD1
    exact kk H1 locs1 ls hR hP1 hD1 hS1 hl
theorem x_aald2 (a : Amb u d E) (pc : Nat) {o len j o' : Nat} {i : Int32} (hdg : decode u.2.1 pc = .ok (.aaload, 1)) (hk : kd o = (2, len)) (ho : o < n) (hi : i = nI j) (hj : j < len) (hlen : len < 2 ^ 31) (hr : r o j = some o') (kk : X E cl sl ad (n, kd, r, h) (pc + 1) lv (.inr (some o') :: st)) : X E cl sl ad (n, kd, r, h) pc lv (.inl i :: .inr (some o) :: st) := by
  intro H locs ls hR hP hD hS hl
  subst hi
  have e : (nI j).toNatClampNeg = j := nI_clamp (by omega)
  refine va_aldq (n := len) (f := fun i => (r o i).map ad) (cA := eK E 2) a.x a.b a.k hP o 2 ?_ rfl (nI_in hj hlen) hdg ?_
  · rw [ws_at ho]
    show some (ad o, ent _ _ (kd o) _ _) = _
    rw [hk]
    rfl
  · rw [e, hr]
    exact kk H locs ls hR hP hD hS hl
theorem x_aald3 (a : Amb u d E) (pc : Nat) {o len j o' : Nat} {i : Int32} (hdg : decode u.2.1 pc = .ok (.aaload, 1)) (hk : kd o = (3, len)) (ho : o < n) (hi : i = nI j) (hj : j < len) (hlen : len < 2 ^ 31) (hr : r o j = some o') (kk : X E cl sl ad (n, kd, r, h) (pc + 1) lv (.inr (some o') :: st)) : X E cl sl ad (n, kd, r, h) pc lv (.inl i :: .inr (some o) :: st) := by
  intro H locs ls hR hP hD hS hl
  subst hi
  have e : (nI j).toNatClampNeg = j := nI_clamp (by omega)
  refine va_aldq (n := len) (f := fun i => (r o i).map ad) (cA := eK E 3) a.x a.b a.k hP o 3 ?_ rfl (nI_in hj hlen) hdg ?_
  · rw [ws_at ho]
    show some (ad o, ent _ _ (kd o) _ _) = _
    rw [hk]
    rfl
  · rw [e, hr]
    exact kk H locs ls hR hP hD hS hl
theorem x_aast2 (a : Amb u d E) (pc : Nat) {o len j o' ci : Nat} {i : Int32} (hdg : decode u.2.1 pc = .ok (.aastore, 1)) (hk : kd o = (2, len)) (ho : o < n) (hi : i = nI j) (hj : j < len) (hlen : len < 2 ^ 31) (hk' : (kd o').1 = ci + 4) (ho' : o' < n) (hc : classes[ci]? = some (cls ci)) (hR2 : (cls ci).1 = R_2) (kk : X E cl sl ad (n, kd, upR r o j (some o'), h) (pc + 1) lv st) : X E cl sl ad (n, kd, r, h) pc lv (.inr (some o') :: .inl i :: .inr (some o) :: st) := by
  intro H locs ls hR hP hD hS hl
  subst hi
  have e : (nI j).toNatClampNeg = j := nI_clamp (by omega)
  have he : (ws (eK E) ad (n, kd, r, h))[o]? = some (ad o, .inl (eK E 2, len, .inr (.inr (.inr (.inr (fun i => (r o i).map ad)))))) := by
    rw [ws_at ho]
    show some (ad o, ent _ _ (kd o) _ _) = _
    rw [hk]
    rfl
  have hv : (ws (eK E) ad (n, kd, r, h))[o']? = some (ad o', .inr (ci, fsl (fun j => if j < nR ci then va_rf ((r o' j).map ad) else .int (h o' j)) (nF ci))) := by
    rw [ws_at ho']
    show some (ad o', ent _ _ (kd o') _ _) = _
    rw [ent_obj hk']
  refine va_astq (r := cls ci) a.x a.b a.k hP hD hS o 2 o' ci he (by rw [hR2]; rfl) hv hc (nI_in hj hlen) hdg (fun H1 locs1 hP1 hD1 hS1 => ?_)
  have e2 : ent (eK E) ad (kd o) (va_up (r o) j (some o')) (h o) = .inl (eK E 2, len, .inr (.inr (.inr (.inr (va_up (fun i => (r o i).map ad) j (some (ad o'))))))) := by
    rw [hk]
    show Sum.inl (eK E 2, len, _) = _
    congr 7
    funext z
    by_cases hz : z = j
    · subst hz
      simp [va_up]
    · simp [va_up, hz]
  rw [e, ws_putR e2] at hP1 hD1
  exact kk H1 locs1 ls (refs_up hR ho') hP1 hD1 hS1 hl
theorem x_aast3 (a : Amb u d E) (pc : Nat) {o len j o' ci : Nat} {i : Int32} (hdg : decode u.2.1 pc = .ok (.aastore, 1)) (hk : kd o = (3, len)) (ho : o < n) (hi : i = nI j) (hj : j < len) (hlen : len < 2 ^ 31) (hk' : (kd o').1 = ci + 4) (ho' : o' < n) (hc : classes[ci]? = some (cls ci)) (hR2 : (cls ci).1 = R_3) (kk : X E cl sl ad (n, kd, upR r o j (some o'), h) (pc + 1) lv st) : X E cl sl ad (n, kd, r, h) pc lv (.inr (some o') :: .inl i :: .inr (some o) :: st) := by
  intro H locs ls hR hP hD hS hl
  subst hi
  have e : (nI j).toNatClampNeg = j := nI_clamp (by omega)
  have he : (ws (eK E) ad (n, kd, r, h))[o]? = some (ad o, .inl (eK E 3, len, .inr (.inr (.inr (.inr (fun i => (r o i).map ad)))))) := by
    rw [ws_at ho]
    show some (ad o, ent _ _ (kd o) _ _) = _
    rw [hk]
    rfl
  have hv : (ws (eK E) ad (n, kd, r, h))[o']? = some (ad o', .inr (ci, fsl (fun j => if j < nR ci then va_rf ((r o' j).map ad) else .int (h o' j)) (nF ci))) := by
    rw [ws_at ho']
    show some (ad o', ent _ _ (kd o') _ _) = _
    rw [ent_obj hk']
  refine va_astq (r := cls ci) a.x a.b a.k hP hD hS o 3 o' ci he (by rw [hR2]; rfl) hv hc (nI_in hj hlen) hdg (fun H1 locs1 hP1 hD1 hS1 => ?_)
  have e2 : ent (eK E) ad (kd o) (va_up (r o) j (some o')) (h o) = .inl (eK E 3, len, .inr (.inr (.inr (.inr (va_up (fun i => (r o i).map ad) j (some (ad o'))))))) := by
    rw [hk]
    show Sum.inl (eK E 3, len, _) = _
    congr 7
    funext z
    by_cases hz : z = j
    · subst hz
      simp [va_up]
    · simp [va_up, hz]
  rw [e, ws_putR e2] at hP1 hD1
  exact kk H1 locs1 ls (refs_up hR ho') hP1 hD1 hS1 hl
theorem x_alen (a : Amb u d E) (pc : Nat) {o len : Nat} (hdg : decode u.2.1 pc = .ok (.arraylength, 1)) (hk : kd o = (0, len)) (ho : o < n) (kk : X E cl sl ad (n, kd, r, h) (pc + 1) lv (.inl (nI len) :: st)) : X E cl sl ad (n, kd, r, h) pc lv (.inr (some o) :: st) := by
  intro H locs ls hR hP hD hS hl
  refine va_alen (x := (len, .inl (h o))) (cA := eK E 0) a.x a.b a.k hP o 0 ?_ (ty := .int) rfl (v := nI len) rfl hdg (kk H locs ls hR hP hD hS hl)
  rw [ws_at ho]
  show some (ad o, ent _ _ (kd o) _ _) = _
  rw [hk]
  rfl
end XF
