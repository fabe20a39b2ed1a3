-- ===== how the class's state and the reference's belong together =====
/-- a source that is neither pending nor served has nothing to forward -/
def okF (v_eg v_hi v_pe : Int32) (wa se : Int32) (i : Nat) : Prop := f_th_hasBit v_pe (nI i) = 0 → se = 0 → (f_th_hasBit v_eg (nI i) = 0 → f_th_hasBit v_hi (nI i) = 0) ∧ (¬ f_th_hasBit v_eg (nI i) = 0 → wa ≤ 0)
def SR (v_eg v_hi v_pe : Int32) (v_pr v_wa v_se : Nat → Int32) (w_ed w_li w_pr w_pn w_se w_wa : Nat → Int32) : Prop :=
  v_pe &&& 65534 = v_pe ∧ ∀ i, 1 ≤ i → i < 16 → w_pr i = v_pr i ∧ w_wa i = v_wa i ∧ w_se i = v_se i ∧ w_pn i = f_th_hasBit v_pe (nI i) ∧ w_ed i = f_th_hasBit v_eg (nI i) ∧ w_li i = f_th_hasBit v_hi (nI i) ∧ okF v_eg v_hi v_pe (v_wa i) (v_se i) i
/-- STATUS as it can be: only its bits, never the privilege 2 -/
def okS (x : Int32) : Prop := x &&& 6570 = x ∧ ¬ x &&& 6144 = 4096
def okM (x : Int32) : Prop := x = 0 ∨ x = 1 ∨ x = 3
def Rel (v_mo v_pc v_de v_di v_en v_wr v_eg v_hi v_pe : Int32) (v_pr v_wa v_se : Nat → Int32) (v_ms v_me v_mt v_us v_ue v_ut : Int32) (v_ti v_co : Int64) (v_sf v_bt v_xv v_xb v_xc v_yv v_yb v_yc : Int32) (w_th w_pv w_pc : Int32) (w_ti w_co : Int64) (w_so w_st w_ge w_gi w_wn w_wr : Int32) (w_ed w_li w_pr w_pn w_se w_wa w_en w_tt w_ve w_ba w_ca : Nat → Int32) : Prop :=
  (w_pv = v_mo ∧ w_pc = v_pc ∧ w_ti = v_ti ∧ w_co = v_co ∧ w_so = v_sf ∧ w_st = v_bt ∧ w_ge = v_de ∧ w_gi = v_di ∧ w_wn = v_en ∧ w_wr = v_wr) ∧
  (w_ve 0 = v_xv ∧ w_ve 1 = v_yv ∧ w_ba 0 = v_xb ∧ w_ba 1 = v_yb ∧ w_ca 0 = v_xc ∧ w_ca 1 = v_yc ∧ w_en 0 = v_me ∧ w_en 1 = v_ue ∧ w_tt 0 = v_mt ∧ w_tt 1 = v_ut) ∧
  (v_ms = 1 ∧ v_us = 2) ∧ okM v_mo ∧ (v_sf = 0 ∨ v_sf = 1) ∧ okS v_bt ∧ SR v_eg v_hi v_pe v_pr v_wa v_se w_ed w_li w_pr w_pn w_se w_wa
