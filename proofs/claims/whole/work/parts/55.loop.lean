set_option maxHeartbeats 4000000 in
set_option maxRecDepth 100000 in
theorem law_head {p : Program} {l : Launch} {e : Env} {s : State} {m : MethodId} {below : List Frame} {meth : Method} {c : Code} {b L : Nat} {xs : Nat → Int32} (hlt : l.stackTraces = false) (C0 : lw_At p s m meth c b L xs) (hL : L ≤ 2049) (D : va_G) (k : k3) (hK : va_K D cls (tys k) s) (hN : NE s) (hV : EV (fun q : Nat => s.heap.size ≤ q) s s.heap) (aT aG aD aS a1 a2 a3 aM aV aI aB aX aY g0 g1 g2 g3 g4 g5 g6 g7 g8 g9 gA gB aO : Nat) (j : Nat) (hj9 : j ≤ 513) (nx9 : j < 512 → NX p l e s m below meth c b D k (j + 1) aT aG aD aS a1 a2 a3 aM aV aI aB aX aY g0 g1 g2 g3 g4 g5 g6 g7 g8 g9 gA gB aO) : NX p l e s m below meth c b D k j aT aG aD aS a1 a2 a3 aM aV aI aB aX aY g0 g1 g2 g3 g4 g5 g6 g7 g8 g9 gA gB aO := by
  obtain ⟨hx, hb, hr, hml, hown, hts0, hX, hbl, hlocks, hgv⟩ := id C0
  have hbA : ¬ (fun q : Nat => s.heap.size ≤ q) b := Nat.not_le.mpr hbl
  intro v_mo v_pc v_de v_di v_en v_wr v_eg v_hi v_pe v_pr v_wa v_se v_ms v_me v_mt v_us v_ue v_ut v_ti v_co v_sf v_bt v_xv v_xb v_xc v_yv v_yb v_yc w_th w_pv w_pc w_ti w_co w_so w_st w_ge w_gi w_wn w_wr w_ed w_li w_pr w_pn w_se w_wa w_en w_tt w_ve w_ba w_ca v_ot H locs ls hR hP hD hS hl
  refine lv_iload hx hb d_la_law_33 (lv_at hl 4 rfl) ?_
  refine lv_aload_n hx hb d_la_law_35 rfl (lv_at hl 0 rfl) ?_
  refine va_slen hx hb hX hbl hbA hS d_la_law_36 ?_
  refine W.eq (g2 := F0 m 37 ls [.int (nI L), .int (nI (4 * j + 1))]) rfl ?_
  refine lv_iconst (v := (4 : Int32)) hx hb d_la_law_37 (by decide) ?_
  refine lv_isub hx hb d_la_law_38 ?_
  refine lv_icmp_gt (tgt := 697) hx hb d_la_law_39 (by decide) (fun c1 => ?_) (fun c1 => ?_)
  · refine lv_iconst (v := (1 : Int32)) hx hb d_la_law_697 (by decide) ?_
    refine va_forget (fun q hq => hS.2.2 q hq) ?_
    refine W.widen (k := 1059) (n := 8463) (by omega) (by omega) ?_
    exact lw_ret hx hb hr hlocks d_la_law_698
  · have hjL : 4 * j + 5 ≤ L := by
      rw [show (4 : Int32) = nI 4 from rfl, Int32.lt_iff_toInt_lt, pk_sub_toInt (by omega) (by omega), nI_toInt (by omega)] at c1
      omega
    have hj : j < 512 := by omega
    have nx := nx9 hj
    refine lv_aload_n hx hb d_la_law_42 rfl (lv_at hl 0 rfl) ?_
    refine lv_iload hx hb d_la_law_43 (lv_at hl 4 rfl) ?_
    refine va_sld hx hb hX hbl hbA hS (vp_in_nI (by omega) (by omega)) d_la_law_45 ?_
    refine lv_bipush (v := (15 : Int32)) hx hb d_la_law_46 (by decide) ?_
    refine lv_iand hx hb d_la_law_48 ?_
    refine lv_topi (fun x9 ex9 => ?_)
    by_cases k0 : x9 = (0 : Int32)
    · refine lv_tableIn (off := 71) (tgt := 120) hx hb d_la_law_49 (by rw [k0]; decide) (by rw [k0]; decide) (by rw [k0]; decide) (by decide) ?_
      exact lc_lines hlt C0 hL D k hK hN hV j hj hjL aT aG aD aS a1 a2 a3 aM aV aI aB aX aY g0 g1 g2 g3 g4 g5 g6 g7 g8 g9 gA gB aO nx v_mo v_pc v_de v_di v_en v_wr v_eg v_hi v_pe v_pr v_wa v_se v_ms v_me v_mt v_us v_ue v_ut v_ti v_co v_sf v_bt v_xv v_xb v_xc v_yv v_yb v_yc w_th w_pv w_pc w_ti w_co w_so w_st w_ge w_gi w_wn w_wr w_ed w_li w_pr w_pn w_se w_wa w_en w_tt w_ve w_ba w_ca v_ot hR hP hD hS hl
    by_cases k1 : x9 = (1 : Int32)
    · refine lv_tableIn (off := 96) (tgt := 145) hx hb d_la_law_49 (by rw [k1]; decide) (by rw [k1]; decide) (by rw [k1]; decide) (by decide) ?_
      exact lc_ticks hlt C0 hL D k hK hN hV j hj hjL aT aG aD aS a1 a2 a3 aM aV aI aB aX aY g0 g1 g2 g3 g4 g5 g6 g7 g8 g9 gA gB aO nx v_mo v_pc v_de v_di v_en v_wr v_eg v_hi v_pe v_pr v_wa v_se v_ms v_me v_mt v_us v_ue v_ut v_ti v_co v_sf v_bt v_xv v_xb v_xc v_yv v_yb v_yc w_th w_pv w_pc w_ti w_co w_so w_st w_ge w_gi w_wn w_wr w_ed w_li w_pr w_pn w_se w_wa w_en w_tt w_ve w_ba w_ca v_ot hR hP hD hS hl
    by_cases k2 : x9 = (2 : Int32)
    · refine lv_tableIn (off := 132) (tgt := 181) hx hb d_la_law_49 (by rw [k2]; decide) (by rw [k2]; decide) (by rw [k2]; decide) (by decide) ?_
      exact lc_load hlt C0 hL D k hK hN hV j hj hjL aT aG aD aS a1 a2 a3 aM aV aI aB aX aY g0 g1 g2 g3 g4 g5 g6 g7 g8 g9 gA gB aO nx v_mo v_pc v_de v_di v_en v_wr v_eg v_hi v_pe v_pr v_wa v_se v_ms v_me v_mt v_us v_ue v_ut v_ti v_co v_sf v_bt v_xv v_xb v_xc v_yv v_yb v_yc w_th w_pv w_pc w_ti w_co w_so w_st w_ge w_gi w_wn w_wr w_ed w_li w_pr w_pn w_se w_wa w_en w_tt w_ve w_ba w_ca v_ot hR hP hD hS hl
    by_cases k3 : x9 = (3 : Int32)
    · refine lv_tableIn (off := 188) (tgt := 237) hx hb d_la_law_49 (by rw [k3]; decide) (by rw [k3]; decide) (by rw [k3]; decide) (by decide) ?_
      exact lc_store hlt C0 hL D k hK hN hV j hj hjL aT aG aD aS a1 a2 a3 aM aV aI aB aX aY g0 g1 g2 g3 g4 g5 g6 g7 g8 g9 gA gB aO nx v_mo v_pc v_de v_di v_en v_wr v_eg v_hi v_pe v_pr v_wa v_se v_ms v_me v_mt v_us v_ue v_ut v_ti v_co v_sf v_bt v_xv v_xb v_xc v_yv v_yb v_yc w_th w_pv w_pc w_ti w_co w_so w_st w_ge w_gi w_wn w_wr w_ed w_li w_pr w_pn w_se w_wa w_en w_tt w_ve w_ba w_ca v_ot hR hP hD hS hl
    by_cases k4 : x9 = (4 : Int32)
    · refine lv_tableIn (off := 236) (tgt := 285) hx hb d_la_law_49 (by rw [k4]; decide) (by rw [k4]; decide) (by rw [k4]; decide) (by decide) ?_
      exact lc_access hlt C0 hL D k hK hN hV j hj hjL aT aG aD aS a1 a2 a3 aM aV aI aB aX aY g0 g1 g2 g3 g4 g5 g6 g7 g8 g9 gA gB aO nx v_mo v_pc v_de v_di v_en v_wr v_eg v_hi v_pe v_pr v_wa v_se v_ms v_me v_mt v_us v_ue v_ut v_ti v_co v_sf v_bt v_xv v_xb v_xc v_yv v_yb v_yc w_th w_pv w_pc w_ti w_co w_so w_st w_ge w_gi w_wn w_wr w_ed w_li w_pr w_pn w_se w_wa w_en w_tt w_ve w_ba w_ca v_ot hR hP hD hS hl
    by_cases k5 : x9 = (5 : Int32)
    · refine lv_tableIn (off := 302) (tgt := 351) hx hb d_la_law_49 (by rw [k5]; decide) (by rw [k5]; decide) (by rw [k5]; decide) (by decide) ?_
      exact lc_read hlt C0 hL D k hK hN hV j hj hjL aT aG aD aS a1 a2 a3 aM aV aI aB aX aY g0 g1 g2 g3 g4 g5 g6 g7 g8 g9 gA gB aO nx v_mo v_pc v_de v_di v_en v_wr v_eg v_hi v_pe v_pr v_wa v_se v_ms v_me v_mt v_us v_ue v_ut v_ti v_co v_sf v_bt v_xv v_xb v_xc v_yv v_yb v_yc w_th w_pv w_pc w_ti w_co w_so w_st w_ge w_gi w_wn w_wr w_ed w_li w_pr w_pn w_se w_wa w_en w_tt w_ve w_ba w_ca v_ot hR hP hD hS hl
    by_cases k6 : x9 = (6 : Int32)
    · refine lv_tableIn (off := 358) (tgt := 407) hx hb d_la_law_49 (by rw [k6]; decide) (by rw [k6]; decide) (by rw [k6]; decide) (by decide) ?_
      exact lc_write hlt C0 hL D k hK hN hV j hj hjL aT aG aD aS a1 a2 a3 aM aV aI aB aX aY g0 g1 g2 g3 g4 g5 g6 g7 g8 g9 gA gB aO nx v_mo v_pc v_de v_di v_en v_wr v_eg v_hi v_pe v_pr v_wa v_se v_ms v_me v_mt v_us v_ue v_ut v_ti v_co v_sf v_bt v_xv v_xb v_xc v_yv v_yb v_yc w_th w_pv w_pc w_ti w_co w_so w_st w_ge w_gi w_wn w_wr w_ed w_li w_pr w_pn w_se w_wa w_en w_tt w_ve w_ba w_ca v_ot hR hP hD hS hl
    by_cases k7 : x9 = (7 : Int32)
    · refine lv_tableIn (off := 406) (tgt := 455) hx hb d_la_law_49 (by rw [k7]; decide) (by rw [k7]; decide) (by rw [k7]; decide) (by decide) ?_
      exact lc_step hlt C0 hL D k hK hN hV j hj hjL aT aG aD aS a1 a2 a3 aM aV aI aB aX aY g0 g1 g2 g3 g4 g5 g6 g7 g8 g9 gA gB aO nx v_mo v_pc v_de v_di v_en v_wr v_eg v_hi v_pe v_pr v_wa v_se v_ms v_me v_mt v_us v_ue v_ut v_ti v_co v_sf v_bt v_xv v_xb v_xc v_yv v_yb v_yc w_th w_pv w_pc w_ti w_co w_so w_st w_ge w_gi w_wn w_wr w_ed w_li w_pr w_pn w_se w_wa w_en w_tt w_ve w_ba w_ca v_ot hR hP hD hS hl
    by_cases k8 : x9 = (8 : Int32)
    · refine lv_tableIn (off := 419) (tgt := 468) hx hb d_la_law_49 (by rw [k8]; decide) (by rw [k8]; decide) (by rw [k8]; decide) (by decide) ?_
      exact lc_raise hlt C0 hL D k hK hN hV j hj hjL aT aG aD aS a1 a2 a3 aM aV aI aB aX aY g0 g1 g2 g3 g4 g5 g6 g7 g8 g9 gA gB aO nx v_mo v_pc v_de v_di v_en v_wr v_eg v_hi v_pe v_pr v_wa v_se v_ms v_me v_mt v_us v_ue v_ut v_ti v_co v_sf v_bt v_xv v_xb v_xc v_yv v_yb v_yc w_th w_pv w_pc w_ti w_co w_so w_st w_ge w_gi w_wn w_wr w_ed w_li w_pr w_pn w_se w_wa w_en w_tt w_ve w_ba w_ca v_ot hR hP hD hS hl
    by_cases k9 : x9 = (9 : Int32)
    · refine lv_tableIn (off := 475) (tgt := 524) hx hb d_la_law_49 (by rw [k9]; decide) (by rw [k9]; decide) (by rw [k9]; decide) (by decide) ?_
      exact lc_leave hlt C0 hL D k hK hN hV j hj hjL aT aG aD aS a1 a2 a3 aM aV aI aB aX aY g0 g1 g2 g3 g4 g5 g6 g7 g8 g9 gA gB aO nx v_mo v_pc v_de v_di v_en v_wr v_eg v_hi v_pe v_pr v_wa v_se v_ms v_me v_mt v_us v_ue v_ut v_ti v_co v_sf v_bt v_xv v_xb v_xc v_yv v_yb v_yc w_th w_pv w_pc w_ti w_co w_so w_st w_ge w_gi w_wn w_wr w_ed w_li w_pr w_pn w_se w_wa w_en w_tt w_ve w_ba w_ca v_ot hR hP hD hS hl
    by_cases k10 : x9 = (10 : Int32)
    · refine lv_tableIn (off := 547) (tgt := 596) hx hb d_la_law_49 (by rw [k10]; decide) (by rw [k10]; decide) (by rw [k10]; decide) (by decide) ?_
      exact lc_privilege hlt C0 hL D k hK hN hV j hj hjL aT aG aD aS a1 a2 a3 aM aV aI aB aX aY g0 g1 g2 g3 g4 g5 g6 g7 g8 g9 gA gB aO nx v_mo v_pc v_de v_di v_en v_wr v_eg v_hi v_pe v_pr v_wa v_se v_ms v_me v_mt v_us v_ue v_ut v_ti v_co v_sf v_bt v_xv v_xb v_xc v_yv v_yb v_yc w_th w_pv w_pc w_ti w_co w_so w_st w_ge w_gi w_wn w_wr w_ed w_li w_pr w_pn w_se w_wa w_en w_tt w_ve w_ba w_ca v_ot hR hP hD hS hl
    by_cases k11 : x9 = (11 : Int32)
    · refine lv_tableIn (off := 560) (tgt := 609) hx hb d_la_law_49 (by rw [k11]; decide) (by rw [k11]; decide) (by rw [k11]; decide) (by decide) ?_
      exact lc_pc hlt C0 hL D k hK hN hV j hj hjL aT aG aD aS a1 a2 a3 aM aV aI aB aX aY g0 g1 g2 g3 g4 g5 g6 g7 g8 g9 gA gB aO nx v_mo v_pc v_de v_di v_en v_wr v_eg v_hi v_pe v_pr v_wa v_se v_ms v_me v_mt v_us v_ue v_ut v_ti v_co v_sf v_bt v_xv v_xb v_xc v_yv v_yb v_yc w_th w_pv w_pc w_ti w_co w_so w_st w_ge w_gi w_wn w_wr w_ed w_li w_pr w_pn w_se w_wa w_en w_tt w_ve w_ba w_ca v_ot hR hP hD hS hl
    by_cases k12 : x9 = (12 : Int32)
    · refine lv_tableIn (off := 573) (tgt := 622) hx hb d_la_law_49 (by rw [k12]; decide) (by rw [k12]; decide) (by rw [k12]; decide) (by decide) ?_
      exact lc_due hlt C0 hL D k hK hN hV j hj hjL aT aG aD aS a1 a2 a3 aM aV aI aB aX aY g0 g1 g2 g3 g4 g5 g6 g7 g8 g9 gA gB aO nx v_mo v_pc v_de v_di v_en v_wr v_eg v_hi v_pe v_pr v_wa v_se v_ms v_me v_mt v_us v_ue v_ut v_ti v_co v_sf v_bt v_xv v_xb v_xc v_yv v_yb v_yc w_th w_pv w_pc w_ti w_co w_so w_st w_ge w_gi w_wn w_wr w_ed w_li w_pr w_pn w_se w_wa w_en w_tt w_ve w_ba w_ca v_ot hR hP hD hS hl
    by_cases k13 : x9 = (13 : Int32)
    · refine lv_tableIn (off := 586) (tgt := 635) hx hb d_la_law_49 (by rw [k13]; decide) (by rw [k13]; decide) (by rw [k13]; decide) (by decide) ?_
      exact lc_source hlt C0 hL D k hK hN hV j hj hjL aT aG aD aS a1 a2 a3 aM aV aI aB aX aY g0 g1 g2 g3 g4 g5 g6 g7 g8 g9 gA gB aO nx v_mo v_pc v_de v_di v_en v_wr v_eg v_hi v_pe v_pr v_wa v_se v_ms v_me v_mt v_us v_ue v_ut v_ti v_co v_sf v_bt v_xv v_xb v_xc v_yv v_yb v_yc w_th w_pv w_pc w_ti w_co w_so w_st w_ge w_gi w_wn w_wr w_ed w_li w_pr w_pn w_se w_wa w_en w_tt w_ve w_ba w_ca v_ot hR hP hD hS hl
    refine lv_tableOut (tgt := 691) hx hb d_la_law_49 (by have := lv_neT k0 (a := 0) (by decide); have := lv_neT k1 (a := 1) (by decide); have := lv_neT k2 (a := 2) (by decide); have := lv_neT k3 (a := 3) (by decide); have := lv_neT k4 (a := 4) (by decide); have := lv_neT k5 (a := 5) (by decide); have := lv_neT k6 (a := 6) (by decide); have := lv_neT k7 (a := 7) (by decide); have := lv_neT k8 (a := 8) (by decide); have := lv_neT k9 (a := 9) (by decide); have := lv_neT k10 (a := 10) (by decide); have := lv_neT k11 (a := 11) (by decide); have := lv_neT k12 (a := 12) (by decide); have := lv_neT k13 (a := 13) (by decide); omega) (by decide) ?_
    refine lv_iinc (v := nI (4 * (j + 1) + 1)) (lv' := [(4, .int (nI (4 * (j + 1) + 1))), (0, .ref b), (1, .ref aT), (2, .ref g0), (3, .ref aO)]) hx hb d_la_law_691 hl (k := 4) rfl (i_4 j) (by decide) rfl (fun ls hl => ?_)
    refine lv_goto (tgt := 33) hx hb d_la_law_694 (by decide) ?_
    refine W.widen (k := 26 + (j + 1)) (n := 217 + 6 * (j + 1)) (by omega) (by omega) ?_
    exact nx v_mo v_pc v_de v_di v_en v_wr v_eg v_hi v_pe v_pr v_wa v_se v_ms v_me v_mt v_us v_ue v_ut v_ti v_co v_sf v_bt v_xv v_xb v_xc v_yv v_yb v_yc w_th w_pv w_pc w_ti w_co w_so w_st w_ge w_gi w_wn w_wr w_ed w_li w_pr w_pn w_se w_wa w_en w_tt w_ve w_ba w_ca v_ot H locs ls hR hP hD hS (lv_sub hl [1, 2, 3, 4, 0] rfl)
theorem law_loop {p : Program} {l : Launch} {e : Env} {s : State} {m : MethodId} {below : List Frame} {meth : Method} {c : Code} {b L : Nat} {xs : Nat → Int32} (hlt : l.stackTraces = false) (C0 : lw_At p s m meth c b L xs) (hL : L ≤ 2049) (D : va_G) (k : k3) (hK : va_K D cls (tys k) s) (hN : NE s) (hV : EV (fun q : Nat => s.heap.size ≤ q) s s.heap) (aT aG aD aS a1 a2 a3 aM aV aI aB aX aY g0 g1 g2 g3 g4 g5 g6 g7 g8 g9 gA gB aO : Nat) : ∀ (n j : Nat), j + n = 513 → NX p l e s m below meth c b D k j aT aG aD aS a1 a2 a3 aM aV aI aB aX aY g0 g1 g2 g3 g4 g5 g6 g7 g8 g9 gA gB aO := by
  intro n
  induction n with
  | zero => intro j hj; exact law_head hlt C0 hL D k hK hN hV aT aG aD aS a1 a2 a3 aM aV aI aB aX aY g0 g1 g2 g3 g4 g5 g6 g7 g8 g9 gA gB aO j (by omega) (fun h => by omega)
  | succ n ih => intro j hj; exact law_head hlt C0 hL D k hK hN hV aT aG aD aS a1 a2 a3 aM aV aI aB aX aY g0 g1 g2 g3 g4 g5 g6 g7 g8 g9 gA gB aO j (by omega) (fun _ => ih (j + 1) (by omega))
