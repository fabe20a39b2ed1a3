-- ===== STATUS, by its seven bits =====
def mkS (a b c d e f g : Bool) : Int32 := (if a then 2 else 0) ||| (if b then 8 else 0) ||| (if c then 32 else 0) ||| (if d then 128 else 0) ||| (if e then 256 else 0) ||| (if f then 2048 else 0) ||| (if g then 4096 else 0)
def slS (a b c d e f g q : Bool) (i : Nat) : Bool := match i with | 1 => a | 3 => b | 5 => c | 7 => d | 8 => e | 11 => f | 12 => g | _ => q
theorem mk_bt : ∀ a b c d e f g : Bool, ∀ i, i < 32 → bt (mkS a b c d e f g) i = slS a b c d e f g false i := by decide +kernel
theorem mk_of {x : Int32} (h : x &&& 6570 = x) : ∃ a b c d e f g, x = mkS a b c d e f g := by
  refine ⟨bt x 1, bt x 3, bt x 5, bt x 7, bt x 8, bt x 11, bt x 12, ?_⟩
  refine b_ext (fun i hi => ?_)
  rw [mk_bt _ _ _ _ _ _ _ i hi]
  have hx : bt x i = (bt x i && bt 6570 i) := by
    have := congrArg (fun z => bt z i) h
    simp only [b_and] at this
    exact this.symm
  have hc : ∀ i, i < 32 → bt 6570 i = slS true true true true true true true false i := by decide +kernel
  rw [hc i hi] at hx
  unfold slS at hx ⊢
  split <;> first | rfl | skip
  · split at hx <;> first | contradiction | skip
    rw [Bool.and_false] at hx
    exact hx
theorem ss_M : ∀ a b c d e f g : Bool, ¬ mkS a b c d e f g &&& 6144 = 4096 → ∀ m ∈ [(0 : Int32), 1, 3],
    f_mo_mixed (f_mo_setBit (f_mo_setBit (mkS a b c d e f g) 7 (f_mo_bit (mkS a b c d e f g) 3)) 3 0) (m <<< ((11 : Int32) &&& 31)) 6144 = f_st_enterMachine (mkS a b c d e f g) m ∧
    (f_st_enterMachine (mkS a b c d e f g) m &&& 6570 = f_st_enterMachine (mkS a b c d e f g) m ∧ ¬ f_st_enterMachine (mkS a b c d e f g) m &&& 6144 = 4096) := by decide +kernel
theorem ss_S : ∀ a b c d e f g : Bool, ¬ mkS a b c d e f g &&& 6144 = 4096 → ∀ m ∈ [(0 : Int32), 1],
    f_mo_setBit (f_mo_setBit (f_mo_setBit (mkS a b c d e f g) 5 (f_mo_bit (mkS a b c d e f g) 1)) 1 0) 8 m = f_st_enterSupervisor (mkS a b c d e f g) m ∧
    (f_st_enterSupervisor (mkS a b c d e f g) m &&& 6570 = f_st_enterSupervisor (mkS a b c d e f g) m ∧ ¬ f_st_enterSupervisor (mkS a b c d e f g) m &&& 6144 = 4096) := by decide +kernel
theorem ss_L : ∀ a b c d e f g : Bool, ¬ mkS a b c d e f g &&& 6144 = 4096 →
    f_mo_setBit (f_mo_setBit (f_mo_setBit (mkS a b c d e f g) 1 (f_mo_bit (mkS a b c d e f g) 5)) 5 1) 8 0 = (f_st_leaveSupervisor (mkS a b c d e f g)).2 ∧
    ((f_st_leaveSupervisor (mkS a b c d e f g)).2 &&& 6570 = (f_st_leaveSupervisor (mkS a b c d e f g)).2 ∧ ¬ (f_st_leaveSupervisor (mkS a b c d e f g)).2 &&& 6144 = 4096) ∧
    (f_st_leaveSupervisor (mkS a b c d e f g)).1 = (if f_mo_bit (mkS a b c d e f g) 8 = 0 then 0 else 1) := by decide +kernel
theorem ss_R : ∀ a b c d e f g : Bool, ¬ mkS a b c d e f g &&& 6144 = 4096 →
    f_mo_mixed (f_mo_setBit (f_mo_setBit (mkS a b c d e f g) 3 (f_mo_bit (mkS a b c d e f g) 7)) 7 1) 0 6144 = (f_st_leaveMachine (mkS a b c d e f g)).2 ∧
    ((f_st_leaveMachine (mkS a b c d e f g)).2 &&& 6570 = (f_st_leaveMachine (mkS a b c d e f g)).2 ∧ ¬ (f_st_leaveMachine (mkS a b c d e f g)).2 &&& 6144 = 4096) ∧
    (f_st_leaveMachine (mkS a b c d e f g)).1 = (mkS a b c d e f g >>> ((11 : Int32) &&& 31)) &&& 3 ∧
    ((f_st_leaveMachine (mkS a b c d e f g)).1 = 0 ∨ (f_st_leaveMachine (mkS a b c d e f g)).1 = 1 ∨ (f_st_leaveMachine (mkS a b c d e f g)).1 = 3) := by decide +kernel
theorem st_M {x m : Int32} (h : okS x) (hm : okM m) : f_mo_mixed (f_mo_setBit (f_mo_setBit x 7 (f_mo_bit x 3)) 3 0) (m <<< ((11 : Int32) &&& 31)) 6144 = f_st_enterMachine x m ∧ okS (f_st_enterMachine x m) := by
  obtain ⟨h1, h2⟩ := h
  obtain ⟨a, b, c, d, e, f, g, rfl⟩ := mk_of h1
  refine ss_M a b c d e f g h2 m ?_
  rcases hm with rfl | rfl | rfl <;> simp
theorem st_S {x m : Int32} (h : okS x) (hm : m = 0 ∨ m = 1) : f_mo_setBit (f_mo_setBit (f_mo_setBit x 5 (f_mo_bit x 1)) 1 0) 8 m = f_st_enterSupervisor x m ∧ okS (f_st_enterSupervisor x m) := by
  obtain ⟨h1, h2⟩ := h
  obtain ⟨a, b, c, d, e, f, g, rfl⟩ := mk_of h1
  refine ss_S a b c d e f g h2 m ?_
  rcases hm with rfl | rfl <;> simp
theorem st_L {x : Int32} (h : okS x) : f_mo_setBit (f_mo_setBit (f_mo_setBit x 1 (f_mo_bit x 5)) 5 1) 8 0 = (f_st_leaveSupervisor x).2 ∧ okS (f_st_leaveSupervisor x).2 ∧ (f_st_leaveSupervisor x).1 = (if f_mo_bit x 8 = 0 then 0 else 1) := by
  obtain ⟨h1, h2⟩ := h
  obtain ⟨a, b, c, d, e, f, g, rfl⟩ := mk_of h1
  exact ss_L a b c d e f g h2
theorem st_R {x : Int32} (h : okS x) : f_mo_mixed (f_mo_setBit (f_mo_setBit x 3 (f_mo_bit x 7)) 7 1) 0 6144 = (f_st_leaveMachine x).2 ∧ okS (f_st_leaveMachine x).2 ∧ (f_st_leaveMachine x).1 = (x >>> ((11 : Int32) &&& 31)) &&& 3 ∧ okM (f_st_leaveMachine x).1 := by
  obtain ⟨h1, h2⟩ := h
  obtain ⟨a, b, c, d, e, f, g, rfl⟩ := mk_of h1
  exact ss_R a b c d e f g h2
-- ===== a trap =====
theorem b1_n (y : Int32) : y &&& 1 = 1 ↔ ¬ y &&& 1 = 0 := by
  rw [b1_1, b1_0]
  cases bt y 0 <;> simp
theorem sb_hb {x : Int32} {i : Nat} (hi : i < 32) : ((x >>> (nI i &&& 31)) &&& 1) = 1 ↔ ¬ f_th_hasBit x (nI i) = 0 := by
  rw [sb_1 hi, hb_0 hi]
  cases bt x i <;> simp
theorem trap_eq {v_mo : Int32} (v_pc : Int32) {v_de v_di v_bt v_xv v_xb v_xc v_yv v_yb v_yc : Int32} {w_ve w_ba w_ca : Nat → Int32} {k : Nat} (hk : k < 32) {q : Int32} (hq : q = 0 ∨ q = 1) (hM : okM v_mo) (hS : okS v_bt)
    (e1 : w_ve 0 = v_xv) (e2 : w_ve 1 = v_yv) (e3 : w_ba 0 = v_xb) (e4 : w_ba 1 = v_yb) (e5 : w_ca 0 = v_xc) (e6 : w_ca 1 = v_yc) :
    (f_th_enterTrap v_mo v_pc v_de v_di v_bt v_xv v_xb v_xc v_yv v_yb v_yc (nI k) q).1 = (f_mo_trap v_mo v_pc v_bt v_de v_di w_ve w_ba w_ca (nI k) q).1 ∧
    (f_th_enterTrap v_mo v_pc v_de v_di v_bt v_xv v_xb v_xc v_yv v_yb v_yc (nI k) q).2.1 = (f_mo_trap v_mo v_pc v_bt v_de v_di w_ve w_ba w_ca (nI k) q).2.1 ∧
    (f_th_enterTrap v_mo v_pc v_de v_di v_bt v_xv v_xb v_xc v_yv v_yb v_yc (nI k) q).2.2.1 = (f_mo_trap v_mo v_pc v_bt v_de v_di w_ve w_ba w_ca (nI k) q).2.2.1 ∧
    okM (f_th_enterTrap v_mo v_pc v_de v_di v_bt v_xv v_xb v_xc v_yv v_yb v_yc (nI k) q).1 ∧
    okS (f_th_enterTrap v_mo v_pc v_de v_di v_bt v_xv v_xb v_xc v_yv v_yb v_yc (nI k) q).2.2.1 ∧
    (f_mo_trap v_mo v_pc v_bt v_de v_di w_ve w_ba w_ca (nI k) q).2.2.2.1 0 = (f_th_enterTrap v_mo v_pc v_de v_di v_bt v_xv v_xb v_xc v_yv v_yb v_yc (nI k) q).2.2.2.1 ∧
    (f_mo_trap v_mo v_pc v_bt v_de v_di w_ve w_ba w_ca (nI k) q).2.2.2.1 1 = (f_th_enterTrap v_mo v_pc v_de v_di v_bt v_xv v_xb v_xc v_yv v_yb v_yc (nI k) q).2.2.2.2.2.1 ∧
    (f_mo_trap v_mo v_pc v_bt v_de v_di w_ve w_ba w_ca (nI k) q).2.2.2.2 0 = (f_th_enterTrap v_mo v_pc v_de v_di v_bt v_xv v_xb v_xc v_yv v_yb v_yc (nI k) q).2.2.2.2.1 ∧
    (f_mo_trap v_mo v_pc v_bt v_de v_di w_ve w_ba w_ca (nI k) q).2.2.2.2 1 = (f_th_enterTrap v_mo v_pc v_de v_di v_bt v_xv v_xb v_xc v_yv v_yb v_yc (nI k) q).2.2.2.2.2.2 := by
  have z0 : (0 : Int32).toNatClampNeg = 0 := by decide
  have z1 : (1 : Int32).toNatClampNeg = 1 := by decide
  have n10 : (1 : Nat) ≠ 0 := by decide
  have n01 : (0 : Nat) ≠ 1 := by decide
  have i10 : ¬ (1 : Int32) = 0 := by decide
  obtain ⟨sM, oM⟩ := st_M hS hM
  have ok3 : okM 3 := Or.inr (Or.inr rfl)
  have ok1 : okM 1 := Or.inr (Or.inl rfl)
  have us0 : ∀ (f : Nat → Int32) (x : Int32), upd f 0 x 0 = x := fun _ _ => pk_us
  have us1 : ∀ (f : Nat → Int32) (x : Int32), upd f 1 x 1 = x := fun _ _ => pk_us
  have un0 : ∀ (f : Nat → Int32) (x : Int32), upd f 0 x 1 = f 1 := fun _ _ => pk_un n10
  have un1 : ∀ (f : Nat → Int32) (x : Int32), upd f 1 x 0 = f 0 := fun _ _ => pk_un n01
  unfold f_th_enterTrap f_mo_trap f_rg_isDelegated f_rg_isDelegated_15 f_hd_take f_hd_take_21
  rw [z0, z1, sM, e1, e2]
  by_cases h3 : v_mo = 3
  · have h3' : (3 : Int32) ≤ v_mo := by rw [h3]; decide
    rcases hq with rfl | rfl
    · simp only [if_pos h3, if_pos h3', if_true, us0, us1, un0, un1, e3, e4, e5, e6]
      exact ⟨trivial, trivial, trivial, ok3, oM, trivial, trivial, trivial, trivial⟩
    · by_cases c : v_xv &&& 1 = 0
      · have c' : ¬ v_xv &&& 1 = 1 := fun x => (b1_n _).mp x c
        simp only [if_pos h3, if_pos h3', i10, if_false, if_pos c, if_neg c', us0, us1, un0, un1, e3, e4, e5, e6]
        exact ⟨trivial, trivial, trivial, ok3, oM, trivial, trivial, trivial, trivial⟩
      · have c' : v_xv &&& 1 = 1 := (b1_n _).mpr c
        simp only [if_pos h3, if_pos h3', i10, if_false, if_neg c, if_pos c', us0, us1, un0, un1, e3, e4, e5, e6]
        exact ⟨trivial, trivial, trivial, ok3, oM, trivial, trivial, trivial, trivial⟩
  · have h01 : v_mo = 0 ∨ v_mo = 1 := by
      rcases hM with x | x | x
      · exact Or.inl x
      · exact Or.inr x
      · exact absurd x h3
    have h3' : ¬ (3 : Int32) ≤ v_mo := by rcases h01 with x | x <;> rw [x] <;> decide
    obtain ⟨sS, oS⟩ := st_S hS h01
    have sS' : (if v_mo = 1 then f_mo_setBit (f_mo_setBit (f_mo_setBit v_bt 5 (f_mo_bit v_bt 1)) 1 0) 8 1 else f_mo_setBit (f_mo_setBit (f_mo_setBit v_bt 5 (f_mo_bit v_bt 1)) 1 0) 8 0) = f_st_enterSupervisor v_bt v_mo := by
      rw [← sS]
      rcases h01 with x | x <;> rw [x]
      · rw [if_neg (by decide)]
      · rw [if_pos rfl]
    rcases hq with rfl | rfl
    · by_cases d : f_th_hasBit v_de (nI k) = 0
      · have d' : ¬ ((v_de >>> (nI k &&& 31)) &&& 1) = 1 := fun x => (sb_hb hk).mp x d
        simp only [if_neg h3, if_neg h3', if_true, if_pos d, if_neg d', us0, us1, un0, un1, e3, e4, e5, e6]
        exact ⟨trivial, trivial, trivial, ok3, oM, trivial, trivial, trivial, trivial⟩
      · have d' : ((v_de >>> (nI k &&& 31)) &&& 1) = 1 := (sb_hb hk).mpr d
        by_cases m1 : v_mo = 1
        · rw [if_pos m1] at sS'
          simp only [if_neg h3, if_neg h3', if_true, if_neg d, if_pos d', if_pos m1, sS', us0, us1, un0, un1, e3, e4, e5, e6]
          exact ⟨trivial, trivial, trivial, ok1, oS, trivial, trivial, trivial, trivial⟩
        · rw [if_neg m1] at sS'
          simp only [if_neg h3, if_neg h3', if_true, if_neg d, if_pos d', if_neg m1, sS', us0, us1, un0, un1, e3, e4, e5, e6]
          exact ⟨trivial, trivial, trivial, ok1, oS, trivial, trivial, trivial, trivial⟩
    · by_cases d : f_th_hasBit v_di (nI k) = 0
      · have d' : ¬ ((v_di >>> (nI k &&& 31)) &&& 1) = 1 := fun x => (sb_hb hk).mp x d
        by_cases c : v_xv &&& 1 = 0
        · have c' : ¬ v_xv &&& 1 = 1 := fun x => (b1_n _).mp x c
          simp only [if_neg h3, if_neg h3', i10, if_false, if_pos d, if_neg d', if_pos c, if_neg c', us0, us1, un0, un1, e3, e4, e5, e6]
          exact ⟨trivial, trivial, trivial, ok3, oM, trivial, trivial, trivial, trivial⟩
        · have c' : v_xv &&& 1 = 1 := (b1_n _).mpr c
          simp only [if_neg h3, if_neg h3', i10, if_false, if_pos d, if_neg d', if_neg c, if_pos c', us0, us1, un0, un1, e3, e4, e5, e6]
          exact ⟨trivial, trivial, trivial, ok3, oM, trivial, trivial, trivial, trivial⟩
      · have d' : ((v_di >>> (nI k &&& 31)) &&& 1) = 1 := (sb_hb hk).mpr d
        by_cases c : v_yv &&& 1 = 0
        · have c' : ¬ v_yv &&& 1 = 1 := fun x => (b1_n _).mp x c
          by_cases m1 : v_mo = 1
          · rw [if_pos m1] at sS'
            simp only [if_neg h3, if_neg h3', i10, if_false, if_neg d, if_pos d', if_pos m1, if_pos c, if_neg c', sS', us0, us1, un0, un1, e3, e4, e5, e6]
            exact ⟨trivial, trivial, trivial, ok1, oS, trivial, trivial, trivial, trivial⟩
          · rw [if_neg m1] at sS'
            simp only [if_neg h3, if_neg h3', i10, if_false, if_neg d, if_pos d', if_neg m1, if_pos c, if_neg c', sS', us0, us1, un0, un1, e3, e4, e5, e6]
            exact ⟨trivial, trivial, trivial, ok1, oS, trivial, trivial, trivial, trivial⟩
        · have c' : v_yv &&& 1 = 1 := (b1_n _).mpr c
          by_cases m1 : v_mo = 1
          · rw [if_pos m1] at sS'
            simp only [if_neg h3, if_neg h3', i10, if_false, if_neg d, if_pos d', if_pos m1, if_neg c, if_pos c', sS', us0, us1, un0, un1, e3, e4, e5, e6]
            exact ⟨trivial, trivial, trivial, ok1, oS, trivial, trivial, trivial, trivial⟩
          · rw [if_neg m1] at sS'
            simp only [if_neg h3, if_neg h3', i10, if_false, if_neg d, if_pos d', if_neg m1, if_neg c, if_pos c', sS', us0, us1, un0, un1, e3, e4, e5, e6]
            exact ⟨trivial, trivial, trivial, ok1, oS, trivial, trivial, trivial, trivial⟩
