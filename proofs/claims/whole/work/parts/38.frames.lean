/-! the desk writes its own objects only, the reference its own -/
def Lo (h g : Hp) : Prop := ∀ o, 61 ≤ o → g o = h o
def Hi (h g : Hp) : Prop := ∀ o, o < 61 → g o = h o
theorem Lo.rf {h : Hp} : Lo h h := fun _ _ => rfl
theorem Lo.tr {h g f : Hp} (a : Lo h g) (b : Lo g f) : Lo h f := fun o ho => (b o ho).trans (a o ho)
theorem Lo.up {h g : Hp} (a : Lo h g) {o k : Nat} {x : Int32} (ho : o < 61) : Lo h (up2 g o k x) := fun z hz => (up2_o _ _ _ (by omega)).trans (a z hz)
theorem Hi.rf {h : Hp} : Hi h h := fun _ _ => rfl
theorem Hi.tr {h g f : Hp} (a : Hi h g) (b : Hi g f) : Hi h f := fun o ho => (b o ho).trans (a o ho)
theorem Hi.up {h g : Hp} (a : Hi h g) {o k : Nat} {x : Int32} (ho : 61 ≤ o) : Hi h (up2 g o k x) := fun z hz => (up2_o _ _ _ (by omega)).trans (a z hz)
theorem tn_lt4 {p : Int32} (a : 0 ≤ p) (b : p < 4) : tn p < 4 := tn_lt a b
theorem tn_le200 {n : Int32} (a : 0 ≤ n) (b : n ≤ 200) : tn n ≤ 200 := by
  have h1 := tn_int a
  have h2 : n.toInt ≤ (200 : Int32).toInt := Int32.le_iff_toInt_le.mp b
  have h3 : (200 : Int32).toInt = 200 := rfl
  omega
theorem lo_clear (h : Hp) {j : Nat} (hj : j < 4) : Lo h (p_clear h j) := (fun o ho => p_clear_o h (by omega) (by omega))
theorem lo_restart (h : Hp) {j : Nat} (hj : j < 4) (hn : Nlt (h 0 4) 7) : Lo h (d_restart h j) := (fun o ho => by
  have hn1 := hn.1
  unfold d_restart
  rw [r_prt_o _ _ _ (fun i hi => by omega), r_mem_o _ _ (by omega), p_clear_o _ (by omega) (by omega)])
theorem lo_answer (h : Hp) {j f : Nat} (hj : j < 4) (hn : Nlt (h 0 4) 7) : Lo h (d_answer h j f) := by
  unfold d_answer
  split
  · exact (Lo.rf.up (by omega)).tr (lo_restart _ hj (by rw [up2_o _ _ _ (by omega)]; exact hn))
  split
  · exact (Lo.rf.up (by omega)).up (by omega)
  · exact (Lo.rf.up (by omega)).up (by omega)
theorem lo_compute (h : Hp) {j : Nat} (hj : j < 4) (o x b : Int32) : Lo h (d_compute h j o x b) := by
  unfold d_compute
  repeat' split
  all_goals first | exact Lo.rf | exact Lo.rf.up (by omega)
theorem lo_send (h : Hp) {i j y f c dp : Nat} {now : Int32} (hi : i < 6) (hj : j < 4) : Lo h (s_send h i j y now f c dp) := by
  unfold s_send q_put
  repeat' split
  · exact ((((Lo.rf.up (by omega)).up (by omega)).up (by omega)).up (by omega)).up (by omega)
  · exact ((Lo.rf.up (by omega)).up (by omega)).up (by omega)
  · exact Lo.rf.up (by omega)
theorem lo_take (h : Hp) {q f c len : Nat} (hq : q < 61) : Lo h (q_take h q f c len) := by
  unfold q_take
  split
  · exact (Lo.rf.up hq).up hq
  · exact Lo.rf
theorem lo_recv (h : Hp) {i j y f c dp : Nat} {now : Int32} (hi : i < 6) (hj : j < 4) : Lo h (s_recv h i j y now f c dp) := by
  unfold s_recv
  split
  · exact Lo.rf.up (by omega)
  split
  · exact (Lo.rf.up (by omega)).up (by omega)
  · exact ((lo_take h (by omega)).up (by omega)).up (by omega)
theorem lo_comm (h : Hp) {j : Nat} (hj : j < 4) {o x b : Int32} (hx : o = 9 ∨ o = 10 → Nlt x 6) : Lo h (d_comm h j o x b) := by
  unfold d_comm
  split
  · exact lo_send h (hx (Or.inl (by assumption))).1 hj
  split
  · exact lo_recv h (hx (Or.inr (by assumption))).1 hj
  split
  · exact ((lo_take h (by omega)).up (by omega)).up (by omega)
  split
  · unfold p_out
    split
    · exact (Lo.rf.up (by omega)).up (by omega)
    · exact Lo.rf.up (by omega)
  split
  · exact Lo.rf.up (by omega)
  split
  · exact Lo.rf.up (by omega)
  · exact Lo.rf
theorem lo_jump (h : Hp) {j : Nat} (hj : j < 4) (o x b : Int32) : Lo h (d_jump h j o x b) := by
  unfold d_jump
  split
  · exact Lo.rf.up (by omega)
  · exact Lo.rf
theorem lo_carry (h : Hp) {j : Nat} (hj : j < 4) {o x b : Int32} (hx : o = 9 ∨ o = 10 → Nlt x 6) : Lo h (d_carry h j o x b) := by
  unfold d_carry
  split
  · exact (Lo.rf.up (by omega)).tr (lo_compute _ hj _ _ _)
  split
  · exact (Lo.rf.up (by omega)).tr (lo_jump _ hj _ _ _)
  · exact (Lo.rf.up (by omega)).tr (lo_comm _ hj hx)
theorem lo_step {h : Hp} (I : IC h) {j : Nat} (hj : j < 4) : Lo h (d_step h j) := by
  unfold d_step
  split
  · split
    · exact lo_carry h hj (fault0_x I (by assumption))
    · exact lo_answer h hj I.n
  · exact lo_answer h hj I.n
theorem hi_shift (h : Hp) {o b k : Nat} (ho : 61 ≤ o) : Hi h (mshift h o b k) := fun z hz => mshift_o h (by omega) k
theorem hi_again (h : Hp) (p : Nat) : Hi h (m_again h p) := by
  unfold m_again
  intro z hz
  rw [mr_prt_o _ _ (by omega), mr_mem_o _ _ (by omega), mr_reg_o _ _ (by omega)]
theorem hi_react (h : Hp) (p f : Nat) : Hi h (m_react h p f) := by
  unfold m_react
  repeat' split
  · exact (Hi.rf.up (by omega)).up (by omega)
  · exact ((Hi.rf.up (by omega)).up (by omega)).tr (hi_again _ _)
  · exact (Hi.rf.up (by omega)).up (by omega)
  · exact (Hi.rf.up (by omega)).up (by omega)
  · exact Hi.rf.up (by omega)
theorem hi_go (h : Hp) (p : Nat) : Hi h (m_go h p) := by
  unfold m_go
  exact Hi.rf.up (by omega)
theorem hi_simp (g : Hp) (p : Nat) (o : Int32) (x : Nat) (b y : Int32) : Hi g (m_simp g p o x b y) := by
  unfold m_simp m_in11 m_out12
  repeat' split
  all_goals first
    | exact Hi.rf
    | exact Hi.rf.up (by omega)
    | exact (Hi.rf.up (by omega)).up (by omega)
    | exact ((Hi.rf.up (by omega)).up (by omega)).up (by omega)
    | exact (((Hi.rf.up (by omega)).up (by omega)).tr (hi_shift _ (by omega))).up (by omega)
theorem hi_do (h : Hp) (p : Nat) (o x b : Int32) : Hi h (m_do h p o x b).1 := by
  unfold m_do m_simple m_inside m_message
  repeat' split
  all_goals first
    | exact Hi.rf
    | exact (hi_go h p).tr (hi_simp _ _ _ _ _ _)
    | (unfold m_ins; repeat' split
       all_goals first
         | exact hi_go h p
         | exact (hi_go h p).up (by omega))
    | (unfold m_send; repeat' split
       all_goals first
         | exact (((hi_go h p).up (by omega)).up (by omega)).up (by omega)
         | exact ((hi_go h p).up (by omega)).up (by omega))
    | (unfold m_recv; repeat' split
       all_goals first
         | exact (((hi_go h p).up (by omega)).up (by omega)).up (by omega)
         | exact (hi_go h p).up (by omega)
         | exact ((((hi_go h p).up (by omega)).up (by omega)).tr (hi_shift _ (by omega))).up (by omega))
theorem hi_step (h : Hp) (p : Nat) : Hi h (m_step h p) := by
  unfold m_step
  split
  · split
    · exact hi_do _ _ _ _ _
    · exact hi_react _ _ _
  · exact hi_react _ _ _
theorem lo_end (h : Hp) (a n v l : Nat) : Lo h (f_end h a n v l) := by
  unfold f_end
  repeat' split
  all_goals first
    | exact Lo.rf
    | exact Lo.rf.up (by omega)
    | exact (Lo.rf.up (by omega)).up (by omega)
    | exact ((Lo.rf.up (by omega)).up (by omega)).up (by omega)
    | exact (((Lo.rf.up (by omega)).up (by omega)).up (by omega)).up (by omega)
    | exact ((((Lo.rf.up (by omega)).up (by omega)).up (by omega)).up (by omega)).up (by omega)
    | exact (((((Lo.rf.up (by omega)).up (by omega)).up (by omega)).up (by omega)).up (by omega)).up (by omega)
theorem lo_tk {h : Hp} (T : TS h) : Lo h (d_tk h) := by
  unfold d_tk d_tick
  split
  · exact (lo_step T.1 (T.1.f _ T.2.1.1).1.1).tr (lo_end _ _ _ _ _)
  · exact lo_end _ _ _ _ _
theorem lo_ticks {h : Hp} : ∀ n, (∀ k, k < n → TS (d_ticks h k)) → Lo h (d_ticks h n)
  | 0, _ => Lo.rf
  | n + 1, hs => (lo_ticks n (fun k hk => hs k (by omega))).tr (lo_tk (hs n (by omega)))
theorem lo_run {h : Hp} {n : Int32} (hs : ¬ h 0 5 = 0 → ∀ k, k < 200 → TS (d_ticks h k)) : Lo h (d_run h n).1 := by
  unfold d_run
  split
  case isTrue z =>
    refine lo_ticks _ (fun k hk => hs z.1 k ?_)
    have := tn_le200 z.2.1 z.2.2
    omega
  case isFalse => exact Lo.rf
theorem lo_begin (h : Hp) {m : Nat} (hm : m ≤ 6) : Lo h (d_begin h m) := fun o ho => by
  unfold d_begin d_frame
  rw [up2_o _ _ _ (by omega), up2_o _ _ _ (by omega), up2_o _ _ _ (by omega), up2_o _ _ _ (by omega), up2_o _ _ _ (by omega), d_prt_o _ _ (fun i hi => by omega), d_parts_o _ (fun j hj => by omega), d_mem_o _ (by omega)]
theorem lo_region (h : Hp) (p f s : Int32) : Lo h (d_region h p f s).1 := by
  unfold d_region
  split
  case isTrue z =>
    have := tn_lt4 z.1.1 z.1.2
    exact ((Lo.rf.up (by omega)).up (by omega)).up (by omega)
  case isFalse => exact Lo.rf
theorem lo_window (h : Hp) (p t : Int32) : Lo h (d_window h p t).1 := by
  unfold d_window
  split
  · exact (((Lo.rf.up (by omega)).up (by omega)).up (by omega)).up (by omega)
  · exact Lo.rf
theorem lo_port (h : Hp) (f t d : Int32) (hn : Nlt (h 0 4) 7) : Lo h (d_port h f t d).1 := by
  have h6 := hn.1
  unfold d_port
  split
  · exact ((((Lo.rf.up (by omega)).up (by omega)).up (by omega)).up (by omega)).up (by omega)
  · exact Lo.rf
theorem lo_action (h : Hp) (p f x : Int32) : Lo h (d_action h p f x).1 := by
  unfold d_action
  split
  case isTrue z =>
    have := tn_lt4 z.1.1 z.1.2
    exact (Lo.rf.up (by omega)).up (by omega)
  case isFalse => exact Lo.rf
theorem lo_code (h : Hp) (p i o x b : Int32) : Lo h (d_code h p i o x b).1 := by
  unfold d_code
  split
  case isTrue z =>
    have := tn_lt4 z.1.1 z.1.2
    exact (((Lo.rf.up (by omega)).up (by omega)).up (by omega)).up (by omega)
  case isFalse => exact Lo.rf
theorem lo_input (h : Hp) (p v : Int32) : Lo h (d_input h p v).1 := by
  unfold d_input
  split
  case isTrue z =>
    have := tn_lt4 z.1.1 z.1.2
    exact (Lo.rf.up (by omega)).up (by omega)
  case isFalse => exact Lo.rf
theorem hi_end (g : Hp) (p a n : Nat) : Hi g (m_end g p a n) := by
  unfold m_end
  split
  · exact ((((Hi.rf.up (by omega)).up (by omega)).up (by omega)).up (by omega)).up (by omega)
  · exact (Hi.rf.up (by omega)).up (by omega)
theorem hi_tk (h : Hp) : Hi h (m_tk h) := by
  unfold m_tk m_tick
  split
  · exact ((Hi.rf.up (by omega)).tr (hi_step _ _)).tr (hi_end _ _ _ _)
  · exact hi_end _ _ _ _
theorem hi_ticks (h : Hp) : ∀ n, Hi h (m_ticks h n)
  | 0 => Hi.rf
  | n + 1 => (hi_ticks h n).tr (hi_tk _)
theorem hi_run (h : Hp) (n : Int32) : Hi h (m_run h n).1 := by
  unfold m_run
  split
  · exact (Hi.rf.up (by omega)).tr (hi_ticks _ _)
  · exact Hi.rf
theorem hi_zer (h : Hp) {o : Nat} (ho : 61 ≤ o) (k : Nat) : Hi h (zer h o k) := fun z hz => zer_o h (by omega) k
theorem hi_pps (h : Hp) : ∀ n, Hi h (m_pps h n)
  | 0 => Hi.rf
  | n + 1 => (hi_pps h n).tr ((((Hi.rf.up (by omega)).up (by omega)).up (by omega)).up (by omega))
theorem hi_start (h : Hp) : Hi h (m_start h).1 := by
  unfold m_start
  split
  · unfold m_begun
    exact ((((((((hi_zer h (by omega) _).tr (hi_zer _ (by omega) _)).tr (hi_zer _ (by omega) _)).tr (hi_pps _ _)).up (by omega)).up (by omega)).up (by omega)).up (by omega))
  · exact Hi.rf
theorem hi_region (h : Hp) (p f s : Int32) : Hi h (m_region h p f s).1 := by
  unfold m_region
  split
  · exact ((Hi.rf.up (by omega)).up (by omega)).up (by omega)
  · exact Hi.rf
theorem hi_window (h : Hp) (p t : Int32) : Hi h (m_window h p t).1 := by
  unfold m_window
  split
  · exact (((Hi.rf.up (by omega)).up (by omega)).up (by omega)).up (by omega)
  · exact Hi.rf
theorem hi_port (h : Hp) (f t d : Int32) : Hi h (m_port h f t d).1 := by
  unfold m_port
  split
  · exact (((((Hi.rf.up (by omega)).up (by omega)).up (by omega)).up (by omega)).up (by omega)).up (by omega)
  · exact Hi.rf
theorem hi_action (h : Hp) (p f x : Int32) : Hi h (m_action h p f x).1 := by
  unfold m_action
  split
  · exact (Hi.rf.up (by omega)).up (by omega)
  · exact Hi.rf
theorem hi_code (h : Hp) (p i o x b : Int32) : Hi h (m_code h p i o x b).1 := by
  unfold m_code
  split
  · exact (((Hi.rf.up (by omega)).up (by omega)).up (by omega)).up (by omega)
  · exact Hi.rf
theorem hi_input (h : Hp) (p v : Int32) : Hi h (m_input h p v).1 := by
  unfold m_input
  split
  · exact (Hi.rf.up (by omega)).up (by omega)
  · exact Hi.rf
