/-! an act -/
set_option maxHeartbeats 4000000 in
set_option maxRecDepth 20000 in
theorem ct_L_acts (l : Launch) (D : va_G) (y : Nat → ClassId) (a : Nat → Nat) (bb : Nat → Nat → Nat) (T : Nat → Nat → Int32) (Z : Nat → Nat → Nat → Int32) (X : Nat → Nat → Int32) (G0 G1 : Int32) (S0 S1 : Nat → Nat → Int32) (t c : Nat) (hI : SI t X) (ht : t ≤ 1600) (hc : c < 2 ^ 31) (hW : OSt 1 T Z X G0 G1 S0 S1) : jLc l D y yL_acts wsL_acts rmL [.ref (a 0), .int (nI c)] a bb T Z (fun T' Z' => ∃ (n : Nat) (X' : Nat → Nat → Int32), n ≤ 40 ∧ SI (t + n) X' ∧ OSt 1 T' Z' X' G0 G1 S0 S1) := by
  refine jLc_of (cc := cL_acts) (maxL := 17) (by decide) rfl rfl (Nat.le_of_ble_eq_true rfl) ?_
  intro p e s m below meth cd A ls hB hr hlocks hP hD hS hl
  have hx := hB.1
  have hb := hB.2.1
  have hl : lv_has ls 17 [(0, .ref (a 0)), (1, .int (nI c))] := hl
  obtain ⟨sp, he, st, po, ba, sk, cr, fl, un, g, hot, run, lost, e0, e1, e2, e3, k, hbd, qsp, qhe, qst, qpo, qba, qsk, qcr, qfl, qun, qg, qhot, qrun, qnw, qlost, qt, qk, qe0, qe1, qe2, qe3, qlg, qc0, qc1, qc2, qc3⟩ := SI_all hI
  obtain ⟨ru, hru, qru, hri⟩ := runs_val qsp qfl (by omega) (by omega)
  refine lv_aload_n hx hb dL_acts_0 rfl (lv_at hl 0 rfl) ?_
  refine lv_bipush (v := (nI 7)) hx hb dL_acts_1 (by decide) ?_
  refine lk_engine hB hP hD hS hW (v := (nI ba)) ((en_v7 (OSt_X hW)).trans qba) gL_acts_X7_engine hl.1 (Nat.le_of_ble_eq_true rfl) dL_acts_3 (fun H locs hP hD hS => ?_)
  refine lv_istore_n (lv' := [(2, .int (nI ba)), (0, .ref (a 0)), (1, .int (nI c))]) hx hb dL_acts_6 rfl hl (by decide) rfl (fun ls hl => ?_)
  refine lv_iload_n hx hb dL_acts_7 rfl (lv_at hl 2 rfl) ?_
  refine lv_bipush (v := (nI 10)) hx hb dL_acts_8 (by decide) ?_
  refine lv_irem hx hb dL_acts_10 (by decide) ?_
  obtain ⟨u1, hu1, eu1⟩ := rem_ex (c := c) (d := 10) (by omega) (by omega) (by omega)
  refine W.eq (g2 := F0 m 11 ls [.int (nI u1)]) (by rw [eu1]) ?_
  rcases (show (u1 = 0 ∨ u1 = 1) ∨ u1 = 2 ∨ (u1 = 3 ∨ u1 = 4) ∨ u1 = 5 ∨ u1 = 6 ∨ 7 ≤ u1 by omega) with hd | hd | hd | hd | hd | hd
  · refine lv_tableIn (off := 41) (tgt := 52) hx hb dL_acts_11 (by rcases hd with hd | hd <;> rw [hd] <;> decide) (by rcases hd with hd | hd <;> rw [hd] <;> decide) (by rcases hd with hd | hd <;> rw [hd] <;> decide) (by decide) ?_
    refine lv_aload_n hx hb dL_acts_52 rfl (lv_at hl 1 rfl) ?_
    refine lv_iconst (v := (nI 5)) hx hb dL_acts_53 (by decide) ?_
    refine lk_engine hB hP hD hS hW (v := (nI cr)) ((en_v5 (OSt_X hW) (n01 qcr (by omega))).trans qcr) gL_acts_X7_engine hl.1 (Nat.le_of_ble_eq_true rfl) dL_acts_54 (fun H locs hP hD hS => ?_)
    rcases (show cr = 1 ∨ cr = 0 by omega) with hcr | hcr
    · refine lv_iconst (v := (nI 1)) hx hb dL_acts_57 (by decide) ?_
      refine lv_icmp_ne (tgt := 65) hx hb dL_acts_58 (by decide) (fun q => absurd (show (nI cr) = (nI 1) from congrArg nI (show cr = 1 by omega)) q) (fun _ => ?_)
      refine lv_iconst (v := (nI 1)) hx hb dL_acts_61 (by decide) ?_
      refine lv_goto (tgt := 66) hx hb dL_acts_62 (by decide) ?_
      refine lv_istore_n (lv' := [(3, .int (nI 1)), (2, .int (nI ba)), (0, .ref (a 0)), (1, .int (nI c))]) hx hb dL_acts_66 rfl hl (by decide) rfl (fun ls hl => ?_)
      refine lv_aload_n hx hb dL_acts_67 rfl (lv_at hl 2 rfl) ?_
      refine lv_bipush (v := (nI 9)) hx hb dL_acts_68 (by decide) ?_
      rcases (show un = 1 ∨ un = 0 by omega) with hun | hun
      · refine lk_engine hB hP hD hS hW (v := (nI un)) ((en_v9 (OSt_X hW) (n01 qun (by omega))).trans qun) gL_acts_X7_engine hl.1 (Nat.le_of_ble_eq_true rfl) dL_acts_70 (fun H locs hP hD hS => ?_)
        refine lv_iconst (v := (nI 1)) hx hb dL_acts_73 (by decide) ?_
        refine lv_icmp_ne (tgt := 81) hx hb dL_acts_74 (by decide) (fun q => absurd (show (nI un) = (nI 1) from congrArg nI (show un = 1 by omega)) q) (fun _ => ?_)
        refine lv_iconst (v := (nI 1)) hx hb dL_acts_77 (by decide) ?_
        refine lv_goto (tgt := 82) hx hb dL_acts_78 (by decide) ?_
        refine lv_istore (lv' := [(4, .int (nI 1)), (3, .int (nI 1)), (2, .int (nI ba)), (0, .ref (a 0)), (1, .int (nI c))]) hx hb dL_acts_82 hl (by decide) rfl (fun ls hl => ?_)
        refine lv_iload_n hx hb dL_acts_84 rfl (lv_at hl 1 rfl) ?_
        refine lv_if_ne (tgt := 103) hx hb dL_acts_85 (by decide) (fun _ => ?_) (fun q => absurd q (show ¬ (nI 1) = (0 : Int32) from fun z => absurd ((nI_eq (a := 1) (b := 0) (by omega) (by omega)).mp z) (by omega)))
        refine lv_iconst (v := (nI 1)) hx hb dL_acts_103 (by decide) ?_
        refine lv_goto (tgt := 108) hx hb dL_acts_104 (by decide) ?_
        refine lv_istore (lv' := [(5, .int (nI 1)), (4, .int (nI 1)), (3, .int (nI 1)), (2, .int (nI ba)), (0, .ref (a 0)), (1, .int (nI c))]) hx hb dL_acts_108 hl (by decide) rfl (fun ls hl => ?_)
        refine lv_aload_n hx hb dL_acts_110 rfl (lv_at hl 4 rfl) ?_
        refine lv_iload_n hx hb dL_acts_111 rfl (lv_at hl 2 rfl) ?_
        refine lv_if_ne (tgt := 119) hx hb dL_acts_112 (by decide) (fun _ => ?_) (fun q => absurd q (show ¬ (nI 1) = (0 : Int32) from fun z => absurd ((nI_eq (a := 1) (b := 0) (by omega) (by omega)).mp z) (by omega)))
        refine lv_iconst (v := (nI 0)) hx hb dL_acts_119 (by decide) ?_
        have hI2 : SI t (trn X (nI 0)) := SI_trn hI (Or.inl rfl)
        obtain ⟨spv, hev, stv, pov, bav, skv, crv, flv, unv, gv, hotv, runv, lostv, e0v, e1v, e2v, e3v, kv, hbdv, qspv, qhev, qstv, qpov, qbav, qskv, qcrv, qflv, qunv, qgv, qhotv, qrunv, qnwv, qlostv, qtv, qkv, qe0v, qe1v, qe2v, qe3v, qlgv, qc0v, qc1v, qc2v, qc3v⟩ := SI_all hI2
        have hcrv : crv = 0 := (nI_eq (by omega) (by omega)).mp (qcrv.symm.trans (trn_cr X (Or.inl rfl)))
        have hunv : unv = un := (nI_eq (by omega) (by omega)).mp (qunv.symm.trans ((trn_un0 X).trans qun))
        refine lk_starter_ok hB hP hD hS hW (Or.inl rfl) (can_off (qcr.trans (congrArg nI hcr))) (SI_bo hI2) gL_acts_X7_starter hl.1 (Nat.le_of_ble_eq_true rfl) dL_acts_120 (fun T Z H locs hW hP hD hS => ?_)
        refine W.eq (g2 := F0 m 123 ls [.int (nI ba)]) (by rw [qba]) ?_
        refine lv_istore (lv' := [(6, .int (nI ba)), (5, .int (nI 1)), (4, .int (nI 1)), (3, .int (nI 1)), (2, .int (nI ba)), (0, .ref (a 0)), (1, .int (nI c))]) hx hb dL_acts_123 hl (by decide) rfl (fun ls hl => ?_)
        refine lv_iload hx hb dL_acts_125 (lv_at hl 0 rfl) ?_
        refine lv_iload hx hb dL_acts_127 (lv_at hl 1 rfl) ?_
        refine lv_if_eq (tgt := 136) hx hb dL_acts_129 (by decide) (fun q => absurd q (show ¬ (nI 1) = (0 : Int32) from fun z => absurd ((nI_eq (a := 1) (b := 0) (by omega) (by omega)).mp z) (by omega))) (fun _ => ?_)
        refine lv_iload_n hx hb dL_acts_132 rfl (lv_at hl 4 rfl) ?_
        refine lv_goto (tgt := 138) hx hb dL_acts_133 (by decide) ?_
        refine lv_icmp_ne (tgt := 210) hx hb dL_acts_138 (by decide) (fun q => absurd (show (nI ba) = (nI ba) from congrArg nI (show ba = ba by omega)) q) (fun _ => ?_)
        refine lv_aload_n hx hb dL_acts_141 rfl (lv_at hl 5 rfl) ?_
        refine lv_aload_n hx hb dL_acts_142 rfl (lv_at hl 5 rfl) ?_
        refine lv_iconst (v := (nI 5)) hx hb dL_acts_143 (by decide) ?_
        refine lk_engine hB hP hD hS hW (v := (nI crv)) ((en_v5 (OSt_X hW) (n01 qcrv (by omega))).trans qcrv) gL_acts_X7_engine hl.1 (Nat.le_of_ble_eq_true rfl) dL_acts_144 (fun H locs hP hD hS => ?_)
        refine lv_iconst (v := (nI 1)) hx hb dL_acts_147 (by decide) ?_
        refine lv_icmp_ne (tgt := 155) hx hb dL_acts_148 (by decide) (fun _ => ?_) (fun q => absurd q (show ¬ (nI crv) = (nI 1) from fun z => absurd ((nI_eq (a := crv) (b := 1) (by omega) (by omega)).mp z) (by omega)))
        refine lv_iconst (v := (nI 0)) hx hb dL_acts_155 (by decide) ?_
        refine lk_starter_no hB hP hD hS hW (Or.inl rfl) (can_same (qcrv.trans (congrArg nI hcrv))) gL_acts_X7_starter hl.1 (Nat.le_of_ble_eq_true rfl) dL_acts_156 (fun H locs hP hD hS => ?_)
        refine lv_bipush (v := (-5)) hx hb dL_acts_159 (by decide) ?_
        refine lv_icmp_ne (tgt := 210) hx hb dL_acts_161 (by decide) (fun q => absurd rfl q) (fun _ => ?_)
        refine lv_iload hx hb dL_acts_164 (lv_at hl 1 rfl) ?_
        refine lv_if_eq (tgt := 183) hx hb dL_acts_166 (by decide) (fun q => absurd q (show ¬ (nI 1) = (0 : Int32) from fun z => absurd ((nI_eq (a := 1) (b := 0) (by omega) (by omega)).mp z) (by omega))) (fun _ => ?_)
        refine lv_iload_n hx hb dL_acts_169 rfl (lv_at hl 3 rfl) ?_
        refine lv_if_ne (tgt := 183) hx hb dL_acts_170 (by decide) (fun _ => ?_) (fun q => absurd q (show ¬ (nI 1) = (0 : Int32) from fun z => absurd ((nI_eq (a := 1) (b := 0) (by omega) (by omega)).mp z) (by omega)))
        refine lv_iload_n hx hb dL_acts_183 rfl (lv_at hl 3 rfl) ?_
        refine lv_if_eq (tgt := 206) hx hb dL_acts_184 (by decide) (fun q => absurd q (show ¬ (nI 1) = (0 : Int32) from fun z => absurd ((nI_eq (a := 1) (b := 0) (by omega) (by omega)).mp z) (by omega))) (fun _ => ?_)
        refine lv_aload_n hx hb dL_acts_187 rfl (lv_at hl 5 rfl) ?_
        refine lv_bipush (v := (nI 9)) hx hb dL_acts_188 (by decide) ?_
        refine lk_engine hB hP hD hS hW (v := (nI unv)) ((en_v9 (OSt_X hW) (n01 qunv (by omega))).trans qunv) gL_acts_X7_engine hl.1 (Nat.le_of_ble_eq_true rfl) dL_acts_190 (fun H locs hP hD hS => ?_)
        refine lv_iload hx hb dL_acts_193 (lv_at hl 2 rfl) ?_
        refine lv_if_eq (tgt := 202) hx hb dL_acts_195 (by decide) (fun q => absurd q (show ¬ (nI 1) = (0 : Int32) from fun z => absurd ((nI_eq (a := 1) (b := 0) (by omega) (by omega)).mp z) (by omega))) (fun _ => ?_)
        refine lv_iconst (v := (nI 1)) hx hb dL_acts_198 (by decide) ?_
        refine lv_goto (tgt := 203) hx hb dL_acts_199 (by decide) ?_
        refine lv_icmp_ne (tgt := 210) hx hb dL_acts_203 (by decide) (fun q => absurd (show (nI unv) = (nI 1) from congrArg nI (show unv = 1 by omega)) q) (fun _ => ?_)
        refine lv_iconst (v := (nI 1)) hx hb dL_acts_206 (by decide) ?_
        refine lv_goto (tgt := 211) hx hb dL_acts_207 (by decide) ?_
        exact jLc_ret hB hr hlocks hP hS dL_acts_211 ⟨0, _, by omega, hI2, hW⟩
      · refine lk_engine hB hP hD hS hW (v := (nI un)) ((en_v9 (OSt_X hW) (n01 qun (by omega))).trans qun) gL_acts_X7_engine hl.1 (Nat.le_of_ble_eq_true rfl) dL_acts_70 (fun H locs hP hD hS => ?_)
        refine lv_iconst (v := (nI 1)) hx hb dL_acts_73 (by decide) ?_
        refine lv_icmp_ne (tgt := 81) hx hb dL_acts_74 (by decide) (fun _ => ?_) (fun q => absurd q (show ¬ (nI un) = (nI 1) from fun z => absurd ((nI_eq (a := un) (b := 1) (by omega) (by omega)).mp z) (by omega)))
        refine lv_iconst (v := (nI 0)) hx hb dL_acts_81 (by decide) ?_
        refine lv_istore (lv' := [(4, .int (nI 0)), (3, .int (nI 1)), (2, .int (nI ba)), (0, .ref (a 0)), (1, .int (nI c))]) hx hb dL_acts_82 hl (by decide) rfl (fun ls hl => ?_)
        refine lv_iload_n hx hb dL_acts_84 rfl (lv_at hl 1 rfl) ?_
        refine lv_if_ne (tgt := 103) hx hb dL_acts_85 (by decide) (fun _ => ?_) (fun q => absurd q (show ¬ (nI 1) = (0 : Int32) from fun z => absurd ((nI_eq (a := 1) (b := 0) (by omega) (by omega)).mp z) (by omega)))
        refine lv_iconst (v := (nI 1)) hx hb dL_acts_103 (by decide) ?_
        refine lv_goto (tgt := 108) hx hb dL_acts_104 (by decide) ?_
        refine lv_istore (lv' := [(5, .int (nI 1)), (4, .int (nI 0)), (3, .int (nI 1)), (2, .int (nI ba)), (0, .ref (a 0)), (1, .int (nI c))]) hx hb dL_acts_108 hl (by decide) rfl (fun ls hl => ?_)
        refine lv_aload_n hx hb dL_acts_110 rfl (lv_at hl 4 rfl) ?_
        refine lv_iload_n hx hb dL_acts_111 rfl (lv_at hl 2 rfl) ?_
        refine lv_if_ne (tgt := 119) hx hb dL_acts_112 (by decide) (fun _ => ?_) (fun q => absurd q (show ¬ (nI 1) = (0 : Int32) from fun z => absurd ((nI_eq (a := 1) (b := 0) (by omega) (by omega)).mp z) (by omega)))
        refine lv_iconst (v := (nI 0)) hx hb dL_acts_119 (by decide) ?_
        have hI2 : SI t (trn X (nI 0)) := SI_trn hI (Or.inl rfl)
        obtain ⟨spv, hev, stv, pov, bav, skv, crv, flv, unv, gv, hotv, runv, lostv, e0v, e1v, e2v, e3v, kv, hbdv, qspv, qhev, qstv, qpov, qbav, qskv, qcrv, qflv, qunv, qgv, qhotv, qrunv, qnwv, qlostv, qtv, qkv, qe0v, qe1v, qe2v, qe3v, qlgv, qc0v, qc1v, qc2v, qc3v⟩ := SI_all hI2
        have hcrv : crv = 0 := (nI_eq (by omega) (by omega)).mp (qcrv.symm.trans (trn_cr X (Or.inl rfl)))
        have hunv : unv = un := (nI_eq (by omega) (by omega)).mp (qunv.symm.trans ((trn_un0 X).trans qun))
        refine lk_starter_ok hB hP hD hS hW (Or.inl rfl) (can_off (qcr.trans (congrArg nI hcr))) (SI_bo hI2) gL_acts_X7_starter hl.1 (Nat.le_of_ble_eq_true rfl) dL_acts_120 (fun T Z H locs hW hP hD hS => ?_)
        refine W.eq (g2 := F0 m 123 ls [.int (nI ba)]) (by rw [qba]) ?_
        refine lv_istore (lv' := [(6, .int (nI ba)), (5, .int (nI 1)), (4, .int (nI 0)), (3, .int (nI 1)), (2, .int (nI ba)), (0, .ref (a 0)), (1, .int (nI c))]) hx hb dL_acts_123 hl (by decide) rfl (fun ls hl => ?_)
        refine lv_iload hx hb dL_acts_125 (lv_at hl 0 rfl) ?_
        refine lv_iload hx hb dL_acts_127 (lv_at hl 1 rfl) ?_
        refine lv_if_eq (tgt := 136) hx hb dL_acts_129 (by decide) (fun q => absurd q (show ¬ (nI 1) = (0 : Int32) from fun z => absurd ((nI_eq (a := 1) (b := 0) (by omega) (by omega)).mp z) (by omega))) (fun _ => ?_)
        refine lv_iload_n hx hb dL_acts_132 rfl (lv_at hl 4 rfl) ?_
        refine lv_goto (tgt := 138) hx hb dL_acts_133 (by decide) ?_
        refine lv_icmp_ne (tgt := 210) hx hb dL_acts_138 (by decide) (fun q => absurd (show (nI ba) = (nI ba) from congrArg nI (show ba = ba by omega)) q) (fun _ => ?_)
        refine lv_aload_n hx hb dL_acts_141 rfl (lv_at hl 5 rfl) ?_
        refine lv_aload_n hx hb dL_acts_142 rfl (lv_at hl 5 rfl) ?_
        refine lv_iconst (v := (nI 5)) hx hb dL_acts_143 (by decide) ?_
        refine lk_engine hB hP hD hS hW (v := (nI crv)) ((en_v5 (OSt_X hW) (n01 qcrv (by omega))).trans qcrv) gL_acts_X7_engine hl.1 (Nat.le_of_ble_eq_true rfl) dL_acts_144 (fun H locs hP hD hS => ?_)
        refine lv_iconst (v := (nI 1)) hx hb dL_acts_147 (by decide) ?_
        refine lv_icmp_ne (tgt := 155) hx hb dL_acts_148 (by decide) (fun _ => ?_) (fun q => absurd q (show ¬ (nI crv) = (nI 1) from fun z => absurd ((nI_eq (a := crv) (b := 1) (by omega) (by omega)).mp z) (by omega)))
        refine lv_iconst (v := (nI 0)) hx hb dL_acts_155 (by decide) ?_
        refine lk_starter_no hB hP hD hS hW (Or.inl rfl) (can_same (qcrv.trans (congrArg nI hcrv))) gL_acts_X7_starter hl.1 (Nat.le_of_ble_eq_true rfl) dL_acts_156 (fun H locs hP hD hS => ?_)
        refine lv_bipush (v := (-5)) hx hb dL_acts_159 (by decide) ?_
        refine lv_icmp_ne (tgt := 210) hx hb dL_acts_161 (by decide) (fun q => absurd rfl q) (fun _ => ?_)
        refine lv_iload hx hb dL_acts_164 (lv_at hl 1 rfl) ?_
        refine lv_if_eq (tgt := 183) hx hb dL_acts_166 (by decide) (fun q => absurd q (show ¬ (nI 1) = (0 : Int32) from fun z => absurd ((nI_eq (a := 1) (b := 0) (by omega) (by omega)).mp z) (by omega))) (fun _ => ?_)
        refine lv_iload_n hx hb dL_acts_169 rfl (lv_at hl 3 rfl) ?_
        refine lv_if_ne (tgt := 183) hx hb dL_acts_170 (by decide) (fun _ => ?_) (fun q => absurd q (show ¬ (nI 1) = (0 : Int32) from fun z => absurd ((nI_eq (a := 1) (b := 0) (by omega) (by omega)).mp z) (by omega)))
        refine lv_iload_n hx hb dL_acts_183 rfl (lv_at hl 3 rfl) ?_
        refine lv_if_eq (tgt := 206) hx hb dL_acts_184 (by decide) (fun q => absurd q (show ¬ (nI 1) = (0 : Int32) from fun z => absurd ((nI_eq (a := 1) (b := 0) (by omega) (by omega)).mp z) (by omega))) (fun _ => ?_)
        refine lv_aload_n hx hb dL_acts_187 rfl (lv_at hl 5 rfl) ?_
        refine lv_bipush (v := (nI 9)) hx hb dL_acts_188 (by decide) ?_
        refine lk_engine hB hP hD hS hW (v := (nI unv)) ((en_v9 (OSt_X hW) (n01 qunv (by omega))).trans qunv) gL_acts_X7_engine hl.1 (Nat.le_of_ble_eq_true rfl) dL_acts_190 (fun H locs hP hD hS => ?_)
        refine lv_iload hx hb dL_acts_193 (lv_at hl 2 rfl) ?_
        refine lv_if_eq (tgt := 202) hx hb dL_acts_195 (by decide) (fun _ => ?_) (fun q => absurd (show (nI 0) = (0 : Int32) from congrArg nI (show 0 = 0 by omega)) q)
        refine lv_iconst (v := (nI 0)) hx hb dL_acts_202 (by decide) ?_
        refine lv_icmp_ne (tgt := 210) hx hb dL_acts_203 (by decide) (fun q => absurd (show (nI unv) = (nI 0) from congrArg nI (show unv = 0 by omega)) q) (fun _ => ?_)
        refine lv_iconst (v := (nI 1)) hx hb dL_acts_206 (by decide) ?_
        refine lv_goto (tgt := 211) hx hb dL_acts_207 (by decide) ?_
        exact jLc_ret hB hr hlocks hP hS dL_acts_211 ⟨0, _, by omega, hI2, hW⟩
    · refine lv_iconst (v := (nI 1)) hx hb dL_acts_57 (by decide) ?_
      refine lv_icmp_ne (tgt := 65) hx hb dL_acts_58 (by decide) (fun _ => ?_) (fun q => absurd q (show ¬ (nI cr) = (nI 1) from fun z => absurd ((nI_eq (a := cr) (b := 1) (by omega) (by omega)).mp z) (by omega)))
      refine lv_iconst (v := (nI 0)) hx hb dL_acts_65 (by decide) ?_
      refine lv_istore_n (lv' := [(3, .int (nI 0)), (2, .int (nI ba)), (0, .ref (a 0)), (1, .int (nI c))]) hx hb dL_acts_66 rfl hl (by decide) rfl (fun ls hl => ?_)
      refine lv_aload_n hx hb dL_acts_67 rfl (lv_at hl 2 rfl) ?_
      refine lv_bipush (v := (nI 9)) hx hb dL_acts_68 (by decide) ?_
      rcases (show un = 1 ∨ un = 0 by omega) with hun | hun
      · refine lk_engine hB hP hD hS hW (v := (nI un)) ((en_v9 (OSt_X hW) (n01 qun (by omega))).trans qun) gL_acts_X7_engine hl.1 (Nat.le_of_ble_eq_true rfl) dL_acts_70 (fun H locs hP hD hS => ?_)
        refine lv_iconst (v := (nI 1)) hx hb dL_acts_73 (by decide) ?_
        refine lv_icmp_ne (tgt := 81) hx hb dL_acts_74 (by decide) (fun q => absurd (show (nI un) = (nI 1) from congrArg nI (show un = 1 by omega)) q) (fun _ => ?_)
        refine lv_iconst (v := (nI 1)) hx hb dL_acts_77 (by decide) ?_
        refine lv_goto (tgt := 82) hx hb dL_acts_78 (by decide) ?_
        refine lv_istore (lv' := [(4, .int (nI 1)), (3, .int (nI 0)), (2, .int (nI ba)), (0, .ref (a 0)), (1, .int (nI c))]) hx hb dL_acts_82 hl (by decide) rfl (fun ls hl => ?_)
        refine lv_iload_n hx hb dL_acts_84 rfl (lv_at hl 1 rfl) ?_
        refine lv_if_ne (tgt := 103) hx hb dL_acts_85 (by decide) (fun q => absurd (show (nI 0) = (0 : Int32) from congrArg nI (show 0 = 0 by omega)) q) (fun _ => ?_)
        rcases (show ba = 0 ∨ 0 < ba by omega) with hba | hba
        · refine lv_iload_n hx hb dL_acts_88 rfl (lv_at hl 2 rfl) ?_
          refine lv_if_le (tgt := 107) hx hb dL_acts_89 (by decide) (fun _ => ?_) (fun q => absurd (show (nI ba) ≤ (0 : Int32) from nI_le (a := ba) (b := 0) (by omega) (by omega)) q)
          refine lv_iconst (v := (nI 0)) hx hb dL_acts_107 (by decide) ?_
          refine lv_istore (lv' := [(5, .int (nI 0)), (4, .int (nI 1)), (3, .int (nI 0)), (2, .int (nI ba)), (0, .ref (a 0)), (1, .int (nI c))]) hx hb dL_acts_108 hl (by decide) rfl (fun ls hl => ?_)
          refine lv_aload_n hx hb dL_acts_110 rfl (lv_at hl 4 rfl) ?_
          refine lv_iload_n hx hb dL_acts_111 rfl (lv_at hl 2 rfl) ?_
          refine lv_if_ne (tgt := 119) hx hb dL_acts_112 (by decide) (fun q => absurd (show (nI 0) = (0 : Int32) from congrArg nI (show 0 = 0 by omega)) q) (fun _ => ?_)
          refine lv_iconst (v := (nI 1)) hx hb dL_acts_115 (by decide) ?_
          refine lv_goto (tgt := 120) hx hb dL_acts_116 (by decide) ?_
          refine lk_starter_no hB hP hD hS hW (Or.inr rfl) (can_no0 (qcr.trans (congrArg nI hcr)) qba hba) gL_acts_X7_starter hl.1 (Nat.le_of_ble_eq_true rfl) dL_acts_120 (fun H locs hP hD hS => ?_)
          refine lv_istore (lv' := [(6, .int (-5)), (5, .int (nI 0)), (4, .int (nI 1)), (3, .int (nI 0)), (2, .int (nI ba)), (0, .ref (a 0)), (1, .int (nI c))]) hx hb dL_acts_123 hl (by decide) rfl (fun ls hl => ?_)
          refine lv_iload hx hb dL_acts_125 (lv_at hl 0 rfl) ?_
          refine lv_iload hx hb dL_acts_127 (lv_at hl 1 rfl) ?_
          refine lv_if_eq (tgt := 136) hx hb dL_acts_129 (by decide) (fun _ => ?_) (fun q => absurd (show (nI 0) = (0 : Int32) from congrArg nI (show 0 = 0 by omega)) q)
          refine lv_bipush (v := (-5)) hx hb dL_acts_136 (by decide) ?_
          refine lv_icmp_ne (tgt := 210) hx hb dL_acts_138 (by decide) (fun q => absurd rfl q) (fun _ => ?_)
          refine lv_aload_n hx hb dL_acts_141 rfl (lv_at hl 5 rfl) ?_
          refine lv_aload_n hx hb dL_acts_142 rfl (lv_at hl 5 rfl) ?_
          refine lv_iconst (v := (nI 5)) hx hb dL_acts_143 (by decide) ?_
          refine lk_engine hB hP hD hS hW (v := (nI cr)) ((en_v5 (OSt_X hW) (n01 qcr (by omega))).trans qcr) gL_acts_X7_engine hl.1 (Nat.le_of_ble_eq_true rfl) dL_acts_144 (fun H locs hP hD hS => ?_)
          refine lv_iconst (v := (nI 1)) hx hb dL_acts_147 (by decide) ?_
          refine lv_icmp_ne (tgt := 155) hx hb dL_acts_148 (by decide) (fun _ => ?_) (fun q => absurd q (show ¬ (nI cr) = (nI 1) from fun z => absurd ((nI_eq (a := cr) (b := 1) (by omega) (by omega)).mp z) (by omega)))
          refine lv_iconst (v := (nI 0)) hx hb dL_acts_155 (by decide) ?_
          refine lk_starter_no hB hP hD hS hW (Or.inl rfl) (can_same (qcr.trans (congrArg nI hcr))) gL_acts_X7_starter hl.1 (Nat.le_of_ble_eq_true rfl) dL_acts_156 (fun H locs hP hD hS => ?_)
          refine lv_bipush (v := (-5)) hx hb dL_acts_159 (by decide) ?_
          refine lv_icmp_ne (tgt := 210) hx hb dL_acts_161 (by decide) (fun q => absurd rfl q) (fun _ => ?_)
          refine lv_iload hx hb dL_acts_164 (lv_at hl 1 rfl) ?_
          refine lv_if_eq (tgt := 183) hx hb dL_acts_166 (by decide) (fun _ => ?_) (fun q => absurd (show (nI 0) = (0 : Int32) from congrArg nI (show 0 = 0 by omega)) q)
          refine lv_iload_n hx hb dL_acts_183 rfl (lv_at hl 3 rfl) ?_
          refine lv_if_eq (tgt := 206) hx hb dL_acts_184 (by decide) (fun _ => ?_) (fun q => absurd (show (nI 0) = (0 : Int32) from congrArg nI (show 0 = 0 by omega)) q)
          refine lv_iconst (v := (nI 1)) hx hb dL_acts_206 (by decide) ?_
          refine lv_goto (tgt := 211) hx hb dL_acts_207 (by decide) ?_
          exact jLc_ret hB hr hlocks hP hS dL_acts_211 ⟨0, X, by omega, hI, hW⟩
        · refine lv_iload_n hx hb dL_acts_88 rfl (lv_at hl 2 rfl) ?_
          refine lv_if_le (tgt := 107) hx hb dL_acts_89 (by decide) (fun q => absurd q (show ¬ (nI ba) ≤ (0 : Int32) from nI_ge (a := 0) (b := ba) (by omega) (by omega))) (fun _ => ?_)
          rcases (show sp < 500 ∨ 500 ≤ sp by omega) with hsp | hsp
          · refine lv_aload_n hx hb dL_acts_92 rfl (lv_at hl 3 rfl) ?_
            refine lv_iconst (v := (nI 0)) hx hb dL_acts_93 (by decide) ?_
            refine lk_engine hB hP hD hS hW (v := (nI sp)) ((en_v0 (OSt_X hW)).trans qsp) gL_acts_X7_engine hl.1 (Nat.le_of_ble_eq_true rfl) dL_acts_94 (fun H locs hP hD hS => ?_)
            refine lv_sipush (v := (nI 500)) hx hb dL_acts_97 (by decide) ?_
            refine lv_icmp_ge (tgt := 107) hx hb dL_acts_100 (by decide) (fun q => absurd q (show ¬ (nI 500) ≤ (nI sp) from nI_ge (a := sp) (b := 500) (by omega) (by omega))) (fun _ => ?_)
            refine lv_iconst (v := (nI 1)) hx hb dL_acts_103 (by decide) ?_
            refine lv_goto (tgt := 108) hx hb dL_acts_104 (by decide) ?_
            refine lv_istore (lv' := [(5, .int (nI 1)), (4, .int (nI 1)), (3, .int (nI 0)), (2, .int (nI ba)), (0, .ref (a 0)), (1, .int (nI c))]) hx hb dL_acts_108 hl (by decide) rfl (fun ls hl => ?_)
            refine lv_aload_n hx hb dL_acts_110 rfl (lv_at hl 4 rfl) ?_
            refine lv_iload_n hx hb dL_acts_111 rfl (lv_at hl 2 rfl) ?_
            refine lv_if_ne (tgt := 119) hx hb dL_acts_112 (by decide) (fun q => absurd (show (nI 0) = (0 : Int32) from congrArg nI (show 0 = 0 by omega)) q) (fun _ => ?_)
            refine lv_iconst (v := (nI 1)) hx hb dL_acts_115 (by decide) ?_
            refine lv_goto (tgt := 120) hx hb dL_acts_116 (by decide) ?_
            have hI2 : SI t (trn X (nI 1)) := SI_trn hI (Or.inr rfl)
            obtain ⟨spv, hev, stv, pov, bav, skv, crv, flv, unv, gv, hotv, runv, lostv, e0v, e1v, e2v, e3v, kv, hbdv, qspv, qhev, qstv, qpov, qbav, qskv, qcrv, qflv, qunv, qgv, qhotv, qrunv, qnwv, qlostv, qtv, qkv, qe0v, qe1v, qe2v, qe3v, qlgv, qc0v, qc1v, qc2v, qc3v⟩ := SI_all hI2
            have hcrv : crv = 1 := (nI_eq (by omega) (by omega)).mp (qcrv.symm.trans (trn_cr X (Or.inr rfl)))
            have hunv : unv = 1 := (nI_eq (by omega) (by omega)).mp (qunv.symm.trans (trn_un1 (n01 qun (by omega))))
            refine lk_starter_ok hB hP hD hS hW (Or.inr rfl) (can_on (qcr.trans (congrArg nI hcr)) qba qsp hba (by omega) hsp) (SI_bo hI2) gL_acts_X7_starter hl.1 (Nat.le_of_ble_eq_true rfl) dL_acts_120 (fun T Z H locs hW hP hD hS => ?_)
            refine W.eq (g2 := F0 m 123 ls [.int (nI ba)]) (by rw [qba]) ?_
            refine lv_istore (lv' := [(6, .int (nI ba)), (5, .int (nI 1)), (4, .int (nI 1)), (3, .int (nI 0)), (2, .int (nI ba)), (0, .ref (a 0)), (1, .int (nI c))]) hx hb dL_acts_123 hl (by decide) rfl (fun ls hl => ?_)
            refine lv_iload hx hb dL_acts_125 (lv_at hl 0 rfl) ?_
            refine lv_iload hx hb dL_acts_127 (lv_at hl 1 rfl) ?_
            refine lv_if_eq (tgt := 136) hx hb dL_acts_129 (by decide) (fun q => absurd q (show ¬ (nI 1) = (0 : Int32) from fun z => absurd ((nI_eq (a := 1) (b := 0) (by omega) (by omega)).mp z) (by omega))) (fun _ => ?_)
            refine lv_iload_n hx hb dL_acts_132 rfl (lv_at hl 4 rfl) ?_
            refine lv_goto (tgt := 138) hx hb dL_acts_133 (by decide) ?_
            refine lv_icmp_ne (tgt := 210) hx hb dL_acts_138 (by decide) (fun q => absurd (show (nI ba) = (nI ba) from congrArg nI (show ba = ba by omega)) q) (fun _ => ?_)
            refine lv_aload_n hx hb dL_acts_141 rfl (lv_at hl 5 rfl) ?_
            refine lv_aload_n hx hb dL_acts_142 rfl (lv_at hl 5 rfl) ?_
            refine lv_iconst (v := (nI 5)) hx hb dL_acts_143 (by decide) ?_
            refine lk_engine hB hP hD hS hW (v := (nI crv)) ((en_v5 (OSt_X hW) (n01 qcrv (by omega))).trans qcrv) gL_acts_X7_engine hl.1 (Nat.le_of_ble_eq_true rfl) dL_acts_144 (fun H locs hP hD hS => ?_)
            refine lv_iconst (v := (nI 1)) hx hb dL_acts_147 (by decide) ?_
            refine lv_icmp_ne (tgt := 155) hx hb dL_acts_148 (by decide) (fun q => absurd (show (nI crv) = (nI 1) from congrArg nI (show crv = 1 by omega)) q) (fun _ => ?_)
            refine lv_iconst (v := (nI 1)) hx hb dL_acts_151 (by decide) ?_
            refine lv_goto (tgt := 156) hx hb dL_acts_152 (by decide) ?_
            refine lk_starter_no hB hP hD hS hW (Or.inr rfl) (can_same (qcrv.trans (congrArg nI hcrv))) gL_acts_X7_starter hl.1 (Nat.le_of_ble_eq_true rfl) dL_acts_156 (fun H locs hP hD hS => ?_)
            refine lv_bipush (v := (-5)) hx hb dL_acts_159 (by decide) ?_
            refine lv_icmp_ne (tgt := 210) hx hb dL_acts_161 (by decide) (fun q => absurd rfl q) (fun _ => ?_)
            refine lv_iload hx hb dL_acts_164 (lv_at hl 1 rfl) ?_
            refine lv_if_eq (tgt := 183) hx hb dL_acts_166 (by decide) (fun q => absurd q (show ¬ (nI 1) = (0 : Int32) from fun z => absurd ((nI_eq (a := 1) (b := 0) (by omega) (by omega)).mp z) (by omega))) (fun _ => ?_)
            refine lv_iload_n hx hb dL_acts_169 rfl (lv_at hl 3 rfl) ?_
            refine lv_if_ne (tgt := 183) hx hb dL_acts_170 (by decide) (fun q => absurd (show (nI 0) = (0 : Int32) from congrArg nI (show 0 = 0 by omega)) q) (fun _ => ?_)
            refine lv_aload_n hx hb dL_acts_173 rfl (lv_at hl 5 rfl) ?_
            refine lv_bipush (v := (nI 9)) hx hb dL_acts_174 (by decide) ?_
            refine lk_engine hB hP hD hS hW (v := (nI unv)) ((en_v9 (OSt_X hW) (n01 qunv (by omega))).trans qunv) gL_acts_X7_engine hl.1 (Nat.le_of_ble_eq_true rfl) dL_acts_176 (fun H locs hP hD hS => ?_)
            refine lv_iconst (v := (nI 1)) hx hb dL_acts_179 (by decide) ?_
            refine lv_icmp_ne (tgt := 210) hx hb dL_acts_180 (by decide) (fun q => absurd (show (nI unv) = (nI 1) from congrArg nI (show unv = 1 by omega)) q) (fun _ => ?_)
            refine lv_iload_n hx hb dL_acts_183 rfl (lv_at hl 3 rfl) ?_
            refine lv_if_eq (tgt := 206) hx hb dL_acts_184 (by decide) (fun _ => ?_) (fun q => absurd (show (nI 0) = (0 : Int32) from congrArg nI (show 0 = 0 by omega)) q)
            refine lv_iconst (v := (nI 1)) hx hb dL_acts_206 (by decide) ?_
            refine lv_goto (tgt := 211) hx hb dL_acts_207 (by decide) ?_
            exact jLc_ret hB hr hlocks hP hS dL_acts_211 ⟨0, _, by omega, hI2, hW⟩
          · refine lv_aload_n hx hb dL_acts_92 rfl (lv_at hl 3 rfl) ?_
            refine lv_iconst (v := (nI 0)) hx hb dL_acts_93 (by decide) ?_
            refine lk_engine hB hP hD hS hW (v := (nI sp)) ((en_v0 (OSt_X hW)).trans qsp) gL_acts_X7_engine hl.1 (Nat.le_of_ble_eq_true rfl) dL_acts_94 (fun H locs hP hD hS => ?_)
            refine lv_sipush (v := (nI 500)) hx hb dL_acts_97 (by decide) ?_
            refine lv_icmp_ge (tgt := 107) hx hb dL_acts_100 (by decide) (fun _ => ?_) (fun q => absurd (show (nI 500) ≤ (nI sp) from nI_le (a := 500) (b := sp) (by omega) (by omega)) q)
            refine lv_iconst (v := (nI 0)) hx hb dL_acts_107 (by decide) ?_
            refine lv_istore (lv' := [(5, .int (nI 0)), (4, .int (nI 1)), (3, .int (nI 0)), (2, .int (nI ba)), (0, .ref (a 0)), (1, .int (nI c))]) hx hb dL_acts_108 hl (by decide) rfl (fun ls hl => ?_)
            refine lv_aload_n hx hb dL_acts_110 rfl (lv_at hl 4 rfl) ?_
            refine lv_iload_n hx hb dL_acts_111 rfl (lv_at hl 2 rfl) ?_
            refine lv_if_ne (tgt := 119) hx hb dL_acts_112 (by decide) (fun q => absurd (show (nI 0) = (0 : Int32) from congrArg nI (show 0 = 0 by omega)) q) (fun _ => ?_)
            refine lv_iconst (v := (nI 1)) hx hb dL_acts_115 (by decide) ?_
            refine lv_goto (tgt := 120) hx hb dL_acts_116 (by decide) ?_
            refine lk_starter_no hB hP hD hS hW (Or.inr rfl) (can_no5 (qcr.trans (congrArg nI hcr)) qba qsp hba (by omega) hsp (by omega)) gL_acts_X7_starter hl.1 (Nat.le_of_ble_eq_true rfl) dL_acts_120 (fun H locs hP hD hS => ?_)
            refine lv_istore (lv' := [(6, .int (-5)), (5, .int (nI 0)), (4, .int (nI 1)), (3, .int (nI 0)), (2, .int (nI ba)), (0, .ref (a 0)), (1, .int (nI c))]) hx hb dL_acts_123 hl (by decide) rfl (fun ls hl => ?_)
            refine lv_iload hx hb dL_acts_125 (lv_at hl 0 rfl) ?_
            refine lv_iload hx hb dL_acts_127 (lv_at hl 1 rfl) ?_
            refine lv_if_eq (tgt := 136) hx hb dL_acts_129 (by decide) (fun _ => ?_) (fun q => absurd (show (nI 0) = (0 : Int32) from congrArg nI (show 0 = 0 by omega)) q)
            refine lv_bipush (v := (-5)) hx hb dL_acts_136 (by decide) ?_
            refine lv_icmp_ne (tgt := 210) hx hb dL_acts_138 (by decide) (fun q => absurd rfl q) (fun _ => ?_)
            refine lv_aload_n hx hb dL_acts_141 rfl (lv_at hl 5 rfl) ?_
            refine lv_aload_n hx hb dL_acts_142 rfl (lv_at hl 5 rfl) ?_
            refine lv_iconst (v := (nI 5)) hx hb dL_acts_143 (by decide) ?_
            refine lk_engine hB hP hD hS hW (v := (nI cr)) ((en_v5 (OSt_X hW) (n01 qcr (by omega))).trans qcr) gL_acts_X7_engine hl.1 (Nat.le_of_ble_eq_true rfl) dL_acts_144 (fun H locs hP hD hS => ?_)
            refine lv_iconst (v := (nI 1)) hx hb dL_acts_147 (by decide) ?_
            refine lv_icmp_ne (tgt := 155) hx hb dL_acts_148 (by decide) (fun _ => ?_) (fun q => absurd q (show ¬ (nI cr) = (nI 1) from fun z => absurd ((nI_eq (a := cr) (b := 1) (by omega) (by omega)).mp z) (by omega)))
            refine lv_iconst (v := (nI 0)) hx hb dL_acts_155 (by decide) ?_
            refine lk_starter_no hB hP hD hS hW (Or.inl rfl) (can_same (qcr.trans (congrArg nI hcr))) gL_acts_X7_starter hl.1 (Nat.le_of_ble_eq_true rfl) dL_acts_156 (fun H locs hP hD hS => ?_)
            refine lv_bipush (v := (-5)) hx hb dL_acts_159 (by decide) ?_
            refine lv_icmp_ne (tgt := 210) hx hb dL_acts_161 (by decide) (fun q => absurd rfl q) (fun _ => ?_)
            refine lv_iload hx hb dL_acts_164 (lv_at hl 1 rfl) ?_
            refine lv_if_eq (tgt := 183) hx hb dL_acts_166 (by decide) (fun _ => ?_) (fun q => absurd (show (nI 0) = (0 : Int32) from congrArg nI (show 0 = 0 by omega)) q)
            refine lv_iload_n hx hb dL_acts_183 rfl (lv_at hl 3 rfl) ?_
            refine lv_if_eq (tgt := 206) hx hb dL_acts_184 (by decide) (fun _ => ?_) (fun q => absurd (show (nI 0) = (0 : Int32) from congrArg nI (show 0 = 0 by omega)) q)
            refine lv_iconst (v := (nI 1)) hx hb dL_acts_206 (by decide) ?_
            refine lv_goto (tgt := 211) hx hb dL_acts_207 (by decide) ?_
            exact jLc_ret hB hr hlocks hP hS dL_acts_211 ⟨0, X, by omega, hI, hW⟩
      · refine lk_engine hB hP hD hS hW (v := (nI un)) ((en_v9 (OSt_X hW) (n01 qun (by omega))).trans qun) gL_acts_X7_engine hl.1 (Nat.le_of_ble_eq_true rfl) dL_acts_70 (fun H locs hP hD hS => ?_)
        refine lv_iconst (v := (nI 1)) hx hb dL_acts_73 (by decide) ?_
        refine lv_icmp_ne (tgt := 81) hx hb dL_acts_74 (by decide) (fun _ => ?_) (fun q => absurd q (show ¬ (nI un) = (nI 1) from fun z => absurd ((nI_eq (a := un) (b := 1) (by omega) (by omega)).mp z) (by omega)))
        refine lv_iconst (v := (nI 0)) hx hb dL_acts_81 (by decide) ?_
        refine lv_istore (lv' := [(4, .int (nI 0)), (3, .int (nI 0)), (2, .int (nI ba)), (0, .ref (a 0)), (1, .int (nI c))]) hx hb dL_acts_82 hl (by decide) rfl (fun ls hl => ?_)
        refine lv_iload_n hx hb dL_acts_84 rfl (lv_at hl 1 rfl) ?_
        refine lv_if_ne (tgt := 103) hx hb dL_acts_85 (by decide) (fun q => absurd (show (nI 0) = (0 : Int32) from congrArg nI (show 0 = 0 by omega)) q) (fun _ => ?_)
        rcases (show ba = 0 ∨ 0 < ba by omega) with hba | hba
        · refine lv_iload_n hx hb dL_acts_88 rfl (lv_at hl 2 rfl) ?_
          refine lv_if_le (tgt := 107) hx hb dL_acts_89 (by decide) (fun _ => ?_) (fun q => absurd (show (nI ba) ≤ (0 : Int32) from nI_le (a := ba) (b := 0) (by omega) (by omega)) q)
          refine lv_iconst (v := (nI 0)) hx hb dL_acts_107 (by decide) ?_
          refine lv_istore (lv' := [(5, .int (nI 0)), (4, .int (nI 0)), (3, .int (nI 0)), (2, .int (nI ba)), (0, .ref (a 0)), (1, .int (nI c))]) hx hb dL_acts_108 hl (by decide) rfl (fun ls hl => ?_)
          refine lv_aload_n hx hb dL_acts_110 rfl (lv_at hl 4 rfl) ?_
          refine lv_iload_n hx hb dL_acts_111 rfl (lv_at hl 2 rfl) ?_
          refine lv_if_ne (tgt := 119) hx hb dL_acts_112 (by decide) (fun q => absurd (show (nI 0) = (0 : Int32) from congrArg nI (show 0 = 0 by omega)) q) (fun _ => ?_)
          refine lv_iconst (v := (nI 1)) hx hb dL_acts_115 (by decide) ?_
          refine lv_goto (tgt := 120) hx hb dL_acts_116 (by decide) ?_
          refine lk_starter_no hB hP hD hS hW (Or.inr rfl) (can_no0 (qcr.trans (congrArg nI hcr)) qba hba) gL_acts_X7_starter hl.1 (Nat.le_of_ble_eq_true rfl) dL_acts_120 (fun H locs hP hD hS => ?_)
          refine lv_istore (lv' := [(6, .int (-5)), (5, .int (nI 0)), (4, .int (nI 0)), (3, .int (nI 0)), (2, .int (nI ba)), (0, .ref (a 0)), (1, .int (nI c))]) hx hb dL_acts_123 hl (by decide) rfl (fun ls hl => ?_)
          refine lv_iload hx hb dL_acts_125 (lv_at hl 0 rfl) ?_
          refine lv_iload hx hb dL_acts_127 (lv_at hl 1 rfl) ?_
          refine lv_if_eq (tgt := 136) hx hb dL_acts_129 (by decide) (fun _ => ?_) (fun q => absurd (show (nI 0) = (0 : Int32) from congrArg nI (show 0 = 0 by omega)) q)
          refine lv_bipush (v := (-5)) hx hb dL_acts_136 (by decide) ?_
          refine lv_icmp_ne (tgt := 210) hx hb dL_acts_138 (by decide) (fun q => absurd rfl q) (fun _ => ?_)
          refine lv_aload_n hx hb dL_acts_141 rfl (lv_at hl 5 rfl) ?_
          refine lv_aload_n hx hb dL_acts_142 rfl (lv_at hl 5 rfl) ?_
          refine lv_iconst (v := (nI 5)) hx hb dL_acts_143 (by decide) ?_
          refine lk_engine hB hP hD hS hW (v := (nI cr)) ((en_v5 (OSt_X hW) (n01 qcr (by omega))).trans qcr) gL_acts_X7_engine hl.1 (Nat.le_of_ble_eq_true rfl) dL_acts_144 (fun H locs hP hD hS => ?_)
          refine lv_iconst (v := (nI 1)) hx hb dL_acts_147 (by decide) ?_
          refine lv_icmp_ne (tgt := 155) hx hb dL_acts_148 (by decide) (fun _ => ?_) (fun q => absurd q (show ¬ (nI cr) = (nI 1) from fun z => absurd ((nI_eq (a := cr) (b := 1) (by omega) (by omega)).mp z) (by omega)))
          refine lv_iconst (v := (nI 0)) hx hb dL_acts_155 (by decide) ?_
          refine lk_starter_no hB hP hD hS hW (Or.inl rfl) (can_same (qcr.trans (congrArg nI hcr))) gL_acts_X7_starter hl.1 (Nat.le_of_ble_eq_true rfl) dL_acts_156 (fun H locs hP hD hS => ?_)
          refine lv_bipush (v := (-5)) hx hb dL_acts_159 (by decide) ?_
          refine lv_icmp_ne (tgt := 210) hx hb dL_acts_161 (by decide) (fun q => absurd rfl q) (fun _ => ?_)
          refine lv_iload hx hb dL_acts_164 (lv_at hl 1 rfl) ?_
          refine lv_if_eq (tgt := 183) hx hb dL_acts_166 (by decide) (fun _ => ?_) (fun q => absurd (show (nI 0) = (0 : Int32) from congrArg nI (show 0 = 0 by omega)) q)
          refine lv_iload_n hx hb dL_acts_183 rfl (lv_at hl 3 rfl) ?_
          refine lv_if_eq (tgt := 206) hx hb dL_acts_184 (by decide) (fun _ => ?_) (fun q => absurd (show (nI 0) = (0 : Int32) from congrArg nI (show 0 = 0 by omega)) q)
          refine lv_iconst (v := (nI 1)) hx hb dL_acts_206 (by decide) ?_
          refine lv_goto (tgt := 211) hx hb dL_acts_207 (by decide) ?_
          exact jLc_ret hB hr hlocks hP hS dL_acts_211 ⟨0, X, by omega, hI, hW⟩
        · refine lv_iload_n hx hb dL_acts_88 rfl (lv_at hl 2 rfl) ?_
          refine lv_if_le (tgt := 107) hx hb dL_acts_89 (by decide) (fun q => absurd q (show ¬ (nI ba) ≤ (0 : Int32) from nI_ge (a := 0) (b := ba) (by omega) (by omega))) (fun _ => ?_)
          rcases (show sp < 500 ∨ 500 ≤ sp by omega) with hsp | hsp
          · refine lv_aload_n hx hb dL_acts_92 rfl (lv_at hl 3 rfl) ?_
            refine lv_iconst (v := (nI 0)) hx hb dL_acts_93 (by decide) ?_
            refine lk_engine hB hP hD hS hW (v := (nI sp)) ((en_v0 (OSt_X hW)).trans qsp) gL_acts_X7_engine hl.1 (Nat.le_of_ble_eq_true rfl) dL_acts_94 (fun H locs hP hD hS => ?_)
            refine lv_sipush (v := (nI 500)) hx hb dL_acts_97 (by decide) ?_
            refine lv_icmp_ge (tgt := 107) hx hb dL_acts_100 (by decide) (fun q => absurd q (show ¬ (nI 500) ≤ (nI sp) from nI_ge (a := sp) (b := 500) (by omega) (by omega))) (fun _ => ?_)
            refine lv_iconst (v := (nI 1)) hx hb dL_acts_103 (by decide) ?_
            refine lv_goto (tgt := 108) hx hb dL_acts_104 (by decide) ?_
            refine lv_istore (lv' := [(5, .int (nI 1)), (4, .int (nI 0)), (3, .int (nI 0)), (2, .int (nI ba)), (0, .ref (a 0)), (1, .int (nI c))]) hx hb dL_acts_108 hl (by decide) rfl (fun ls hl => ?_)
            refine lv_aload_n hx hb dL_acts_110 rfl (lv_at hl 4 rfl) ?_
            refine lv_iload_n hx hb dL_acts_111 rfl (lv_at hl 2 rfl) ?_
            refine lv_if_ne (tgt := 119) hx hb dL_acts_112 (by decide) (fun q => absurd (show (nI 0) = (0 : Int32) from congrArg nI (show 0 = 0 by omega)) q) (fun _ => ?_)
            refine lv_iconst (v := (nI 1)) hx hb dL_acts_115 (by decide) ?_
            refine lv_goto (tgt := 120) hx hb dL_acts_116 (by decide) ?_
            have hI2 : SI t (trn X (nI 1)) := SI_trn hI (Or.inr rfl)
            obtain ⟨spv, hev, stv, pov, bav, skv, crv, flv, unv, gv, hotv, runv, lostv, e0v, e1v, e2v, e3v, kv, hbdv, qspv, qhev, qstv, qpov, qbav, qskv, qcrv, qflv, qunv, qgv, qhotv, qrunv, qnwv, qlostv, qtv, qkv, qe0v, qe1v, qe2v, qe3v, qlgv, qc0v, qc1v, qc2v, qc3v⟩ := SI_all hI2
            have hcrv : crv = 1 := (nI_eq (by omega) (by omega)).mp (qcrv.symm.trans (trn_cr X (Or.inr rfl)))
            have hunv : unv = 1 := (nI_eq (by omega) (by omega)).mp (qunv.symm.trans (trn_un1 (n01 qun (by omega))))
            refine lk_starter_ok hB hP hD hS hW (Or.inr rfl) (can_on (qcr.trans (congrArg nI hcr)) qba qsp hba (by omega) hsp) (SI_bo hI2) gL_acts_X7_starter hl.1 (Nat.le_of_ble_eq_true rfl) dL_acts_120 (fun T Z H locs hW hP hD hS => ?_)
            refine W.eq (g2 := F0 m 123 ls [.int (nI ba)]) (by rw [qba]) ?_
            refine lv_istore (lv' := [(6, .int (nI ba)), (5, .int (nI 1)), (4, .int (nI 0)), (3, .int (nI 0)), (2, .int (nI ba)), (0, .ref (a 0)), (1, .int (nI c))]) hx hb dL_acts_123 hl (by decide) rfl (fun ls hl => ?_)
            refine lv_iload hx hb dL_acts_125 (lv_at hl 0 rfl) ?_
            refine lv_iload hx hb dL_acts_127 (lv_at hl 1 rfl) ?_
            refine lv_if_eq (tgt := 136) hx hb dL_acts_129 (by decide) (fun q => absurd q (show ¬ (nI 1) = (0 : Int32) from fun z => absurd ((nI_eq (a := 1) (b := 0) (by omega) (by omega)).mp z) (by omega))) (fun _ => ?_)
            refine lv_iload_n hx hb dL_acts_132 rfl (lv_at hl 4 rfl) ?_
            refine lv_goto (tgt := 138) hx hb dL_acts_133 (by decide) ?_
            refine lv_icmp_ne (tgt := 210) hx hb dL_acts_138 (by decide) (fun q => absurd (show (nI ba) = (nI ba) from congrArg nI (show ba = ba by omega)) q) (fun _ => ?_)
            refine lv_aload_n hx hb dL_acts_141 rfl (lv_at hl 5 rfl) ?_
            refine lv_aload_n hx hb dL_acts_142 rfl (lv_at hl 5 rfl) ?_
            refine lv_iconst (v := (nI 5)) hx hb dL_acts_143 (by decide) ?_
            refine lk_engine hB hP hD hS hW (v := (nI crv)) ((en_v5 (OSt_X hW) (n01 qcrv (by omega))).trans qcrv) gL_acts_X7_engine hl.1 (Nat.le_of_ble_eq_true rfl) dL_acts_144 (fun H locs hP hD hS => ?_)
            refine lv_iconst (v := (nI 1)) hx hb dL_acts_147 (by decide) ?_
            refine lv_icmp_ne (tgt := 155) hx hb dL_acts_148 (by decide) (fun q => absurd (show (nI crv) = (nI 1) from congrArg nI (show crv = 1 by omega)) q) (fun _ => ?_)
            refine lv_iconst (v := (nI 1)) hx hb dL_acts_151 (by decide) ?_
            refine lv_goto (tgt := 156) hx hb dL_acts_152 (by decide) ?_
            refine lk_starter_no hB hP hD hS hW (Or.inr rfl) (can_same (qcrv.trans (congrArg nI hcrv))) gL_acts_X7_starter hl.1 (Nat.le_of_ble_eq_true rfl) dL_acts_156 (fun H locs hP hD hS => ?_)
            refine lv_bipush (v := (-5)) hx hb dL_acts_159 (by decide) ?_
            refine lv_icmp_ne (tgt := 210) hx hb dL_acts_161 (by decide) (fun q => absurd rfl q) (fun _ => ?_)
            refine lv_iload hx hb dL_acts_164 (lv_at hl 1 rfl) ?_
            refine lv_if_eq (tgt := 183) hx hb dL_acts_166 (by decide) (fun q => absurd q (show ¬ (nI 1) = (0 : Int32) from fun z => absurd ((nI_eq (a := 1) (b := 0) (by omega) (by omega)).mp z) (by omega))) (fun _ => ?_)
            refine lv_iload_n hx hb dL_acts_169 rfl (lv_at hl 3 rfl) ?_
            refine lv_if_ne (tgt := 183) hx hb dL_acts_170 (by decide) (fun q => absurd (show (nI 0) = (0 : Int32) from congrArg nI (show 0 = 0 by omega)) q) (fun _ => ?_)
            refine lv_aload_n hx hb dL_acts_173 rfl (lv_at hl 5 rfl) ?_
            refine lv_bipush (v := (nI 9)) hx hb dL_acts_174 (by decide) ?_
            refine lk_engine hB hP hD hS hW (v := (nI unv)) ((en_v9 (OSt_X hW) (n01 qunv (by omega))).trans qunv) gL_acts_X7_engine hl.1 (Nat.le_of_ble_eq_true rfl) dL_acts_176 (fun H locs hP hD hS => ?_)
            refine lv_iconst (v := (nI 1)) hx hb dL_acts_179 (by decide) ?_
            refine lv_icmp_ne (tgt := 210) hx hb dL_acts_180 (by decide) (fun q => absurd (show (nI unv) = (nI 1) from congrArg nI (show unv = 1 by omega)) q) (fun _ => ?_)
            refine lv_iload_n hx hb dL_acts_183 rfl (lv_at hl 3 rfl) ?_
            refine lv_if_eq (tgt := 206) hx hb dL_acts_184 (by decide) (fun _ => ?_) (fun q => absurd (show (nI 0) = (0 : Int32) from congrArg nI (show 0 = 0 by omega)) q)
            refine lv_iconst (v := (nI 1)) hx hb dL_acts_206 (by decide) ?_
            refine lv_goto (tgt := 211) hx hb dL_acts_207 (by decide) ?_
            exact jLc_ret hB hr hlocks hP hS dL_acts_211 ⟨0, _, by omega, hI2, hW⟩
          · refine lv_aload_n hx hb dL_acts_92 rfl (lv_at hl 3 rfl) ?_
            refine lv_iconst (v := (nI 0)) hx hb dL_acts_93 (by decide) ?_
            refine lk_engine hB hP hD hS hW (v := (nI sp)) ((en_v0 (OSt_X hW)).trans qsp) gL_acts_X7_engine hl.1 (Nat.le_of_ble_eq_true rfl) dL_acts_94 (fun H locs hP hD hS => ?_)
            refine lv_sipush (v := (nI 500)) hx hb dL_acts_97 (by decide) ?_
            refine lv_icmp_ge (tgt := 107) hx hb dL_acts_100 (by decide) (fun _ => ?_) (fun q => absurd (show (nI 500) ≤ (nI sp) from nI_le (a := 500) (b := sp) (by omega) (by omega)) q)
            refine lv_iconst (v := (nI 0)) hx hb dL_acts_107 (by decide) ?_
            refine lv_istore (lv' := [(5, .int (nI 0)), (4, .int (nI 0)), (3, .int (nI 0)), (2, .int (nI ba)), (0, .ref (a 0)), (1, .int (nI c))]) hx hb dL_acts_108 hl (by decide) rfl (fun ls hl => ?_)
            refine lv_aload_n hx hb dL_acts_110 rfl (lv_at hl 4 rfl) ?_
            refine lv_iload_n hx hb dL_acts_111 rfl (lv_at hl 2 rfl) ?_
            refine lv_if_ne (tgt := 119) hx hb dL_acts_112 (by decide) (fun q => absurd (show (nI 0) = (0 : Int32) from congrArg nI (show 0 = 0 by omega)) q) (fun _ => ?_)
            refine lv_iconst (v := (nI 1)) hx hb dL_acts_115 (by decide) ?_
            refine lv_goto (tgt := 120) hx hb dL_acts_116 (by decide) ?_
            refine lk_starter_no hB hP hD hS hW (Or.inr rfl) (can_no5 (qcr.trans (congrArg nI hcr)) qba qsp hba (by omega) hsp (by omega)) gL_acts_X7_starter hl.1 (Nat.le_of_ble_eq_true rfl) dL_acts_120 (fun H locs hP hD hS => ?_)
            refine lv_istore (lv' := [(6, .int (-5)), (5, .int (nI 0)), (4, .int (nI 0)), (3, .int (nI 0)), (2, .int (nI ba)), (0, .ref (a 0)), (1, .int (nI c))]) hx hb dL_acts_123 hl (by decide) rfl (fun ls hl => ?_)
            refine lv_iload hx hb dL_acts_125 (lv_at hl 0 rfl) ?_
            refine lv_iload hx hb dL_acts_127 (lv_at hl 1 rfl) ?_
            refine lv_if_eq (tgt := 136) hx hb dL_acts_129 (by decide) (fun _ => ?_) (fun q => absurd (show (nI 0) = (0 : Int32) from congrArg nI (show 0 = 0 by omega)) q)
            refine lv_bipush (v := (-5)) hx hb dL_acts_136 (by decide) ?_
            refine lv_icmp_ne (tgt := 210) hx hb dL_acts_138 (by decide) (fun q => absurd rfl q) (fun _ => ?_)
            refine lv_aload_n hx hb dL_acts_141 rfl (lv_at hl 5 rfl) ?_
            refine lv_aload_n hx hb dL_acts_142 rfl (lv_at hl 5 rfl) ?_
            refine lv_iconst (v := (nI 5)) hx hb dL_acts_143 (by decide) ?_
            refine lk_engine hB hP hD hS hW (v := (nI cr)) ((en_v5 (OSt_X hW) (n01 qcr (by omega))).trans qcr) gL_acts_X7_engine hl.1 (Nat.le_of_ble_eq_true rfl) dL_acts_144 (fun H locs hP hD hS => ?_)
            refine lv_iconst (v := (nI 1)) hx hb dL_acts_147 (by decide) ?_
            refine lv_icmp_ne (tgt := 155) hx hb dL_acts_148 (by decide) (fun _ => ?_) (fun q => absurd q (show ¬ (nI cr) = (nI 1) from fun z => absurd ((nI_eq (a := cr) (b := 1) (by omega) (by omega)).mp z) (by omega)))
            refine lv_iconst (v := (nI 0)) hx hb dL_acts_155 (by decide) ?_
            refine lk_starter_no hB hP hD hS hW (Or.inl rfl) (can_same (qcr.trans (congrArg nI hcr))) gL_acts_X7_starter hl.1 (Nat.le_of_ble_eq_true rfl) dL_acts_156 (fun H locs hP hD hS => ?_)
            refine lv_bipush (v := (-5)) hx hb dL_acts_159 (by decide) ?_
            refine lv_icmp_ne (tgt := 210) hx hb dL_acts_161 (by decide) (fun q => absurd rfl q) (fun _ => ?_)
            refine lv_iload hx hb dL_acts_164 (lv_at hl 1 rfl) ?_
            refine lv_if_eq (tgt := 183) hx hb dL_acts_166 (by decide) (fun _ => ?_) (fun q => absurd (show (nI 0) = (0 : Int32) from congrArg nI (show 0 = 0 by omega)) q)
            refine lv_iload_n hx hb dL_acts_183 rfl (lv_at hl 3 rfl) ?_
            refine lv_if_eq (tgt := 206) hx hb dL_acts_184 (by decide) (fun _ => ?_) (fun q => absurd (show (nI 0) = (0 : Int32) from congrArg nI (show 0 = 0 by omega)) q)
            refine lv_iconst (v := (nI 1)) hx hb dL_acts_206 (by decide) ?_
            refine lv_goto (tgt := 211) hx hb dL_acts_207 (by decide) ?_
            exact jLc_ret hB hr hlocks hP hS dL_acts_211 ⟨0, X, by omega, hI, hW⟩
  · refine lv_tableIn (off := 201) (tgt := 212) hx hb dL_acts_11 (by rw [hd]; decide) (by rw [hd]; decide) (by rw [hd]; decide) (by decide) ?_
    refine lv_aload_n hx hb dL_acts_212 rfl (lv_at hl 1 rfl) ?_
    refine lv_iconst (v := (nI 4)) hx hb dL_acts_213 (by decide) ?_
    refine lk_engine hB hP hD hS hW (v := (nI sk)) ((en_v4 (OSt_X hW) (n01 qsk (by omega))).trans qsk) gL_acts_X7_engine hl.1 (Nat.le_of_ble_eq_true rfl) dL_acts_214 (fun H locs hP hD hS => ?_)
    rcases (show sk = 1 ∨ sk = 0 by omega) with hsk | hsk
    · refine lv_iconst (v := (nI 1)) hx hb dL_acts_217 (by decide) ?_
      refine lv_icmp_ne (tgt := 225) hx hb dL_acts_218 (by decide) (fun q => absurd (show (nI sk) = (nI 1) from congrArg nI (show sk = 1 by omega)) q) (fun _ => ?_)
      refine lv_iconst (v := (nI 1)) hx hb dL_acts_221 (by decide) ?_
      refine lv_goto (tgt := 226) hx hb dL_acts_222 (by decide) ?_
      refine lv_istore (lv' := [(7, .int (nI 1)), (2, .int (nI ba)), (0, .ref (a 0)), (1, .int (nI c))]) hx hb dL_acts_226 hl (by decide) rfl (fun ls hl => ?_)
      refine lv_aload_n hx hb dL_acts_228 rfl (lv_at hl 2 rfl) ?_
      refine lv_iload hx hb dL_acts_229 (lv_at hl 0 rfl) ?_
      refine lk_spark_no hB hP hD hS hW (v0 := nI 1) (Or.inr rfl) (qsk.trans (congrArg nI hsk)) gL_acts_X7_spark hl.1 (Nat.le_of_ble_eq_true rfl) dL_acts_231 (fun H locs hP hD hS => ?_)
      refine lv_bipush (v := (-5)) hx hb dL_acts_234 (by decide) ?_
      refine lv_icmp_ne (tgt := 283) hx hb dL_acts_236 (by decide) (fun q => absurd rfl q) (fun _ => ?_)
      refine lv_aload_n hx hb dL_acts_239 rfl (lv_at hl 2 rfl) ?_
      refine lv_iload hx hb dL_acts_240 (lv_at hl 0 rfl) ?_
      refine lv_if_ne (tgt := 249) hx hb dL_acts_242 (by decide) (fun _ => ?_) (fun q => absurd q (show ¬ (nI 1) = (0 : Int32) from fun z => absurd ((nI_eq (a := 1) (b := 0) (by omega) (by omega)).mp z) (by omega)))
      refine lv_iconst (v := (nI 0)) hx hb dL_acts_249 (by decide) ?_
      have hI2 : SI t (sv 1 X (upd (X 1) 6 (nI 0))) := SI_eng hI (rgEu_21 (SI_rg hI) (rgn (n := 0) (by omega) (by omega))) (by decide) (by decide)
      obtain ⟨spv, hev, stv, pov, bav, skv, crv, flv, unv, gv, hotv, runv, lostv, e0v, e1v, e2v, e3v, kv, hbdv, qspv, qhev, qstv, qpov, qbav, qskv, qcrv, qflv, qunv, qgv, qhotv, qrunv, qnwv, qlostv, qtv, qkv, qe0v, qe1v, qe2v, qe3v, qlgv, qc0v, qc1v, qc2v, qc3v⟩ := SI_all hI2
      have hskv : skv = 0 := (nI_eq (by omega) (by omega)).mp (qskv.symm.trans (show (sv 1 X (upd (X 1) 6 (nI 0))) 1 6 = nI 0 from rfl))
      have hpov : pov = po := (nI_eq (by omega) (by omega)).mp (qpov.symm.trans (show (sv 1 X (upd (X 1) 6 (nI 0))) 1 4 = nI po from qpo))
      refine lk_spark_ok hB hP hD hS hW (v0 := nI 0) (Or.inl rfl) (by rw [qsk, hsk]; decide) (SI_bo hI2) gL_acts_X7_spark hl.1 (Nat.le_of_ble_eq_true rfl) dL_acts_250 (fun T Z H locs hW hP hD hS => ?_)
      refine W.eq (g2 := F0 m 253 ls [.int (nI po)]) (by rw [qpo]) ?_
      refine lv_aload_n hx hb dL_acts_253 rfl (lv_at hl 2 rfl) ?_
      refine lv_iconst (v := (nI 3)) hx hb dL_acts_254 (by decide) ?_
      refine lk_engine hB hP hD hS hW (v := (nI pov)) ((en_v3 (OSt_X hW)).trans qpov) gL_acts_X7_engine hl.1 (Nat.le_of_ble_eq_true rfl) dL_acts_255 (fun H locs hP hD hS => ?_)
      refine lv_icmp_ne (tgt := 283) hx hb dL_acts_258 (by decide) (fun q => absurd (show (nI po) = (nI pov) from congrArg nI (show po = pov by omega)) q) (fun _ => ?_)
      refine lv_aload_n hx hb dL_acts_261 rfl (lv_at hl 2 rfl) ?_
      refine lv_iconst (v := (nI 4)) hx hb dL_acts_262 (by decide) ?_
      refine lk_engine hB hP hD hS hW (v := (nI skv)) ((en_v4 (OSt_X hW) (n01 qskv (by omega))).trans qskv) gL_acts_X7_engine hl.1 (Nat.le_of_ble_eq_true rfl) dL_acts_263 (fun H locs hP hD hS => ?_)
      refine lv_iload hx hb dL_acts_266 (lv_at hl 0 rfl) ?_
      refine lv_if_eq (tgt := 275) hx hb dL_acts_268 (by decide) (fun q => absurd q (show ¬ (nI 1) = (0 : Int32) from fun z => absurd ((nI_eq (a := 1) (b := 0) (by omega) (by omega)).mp z) (by omega))) (fun _ => ?_)
      refine lv_iconst (v := (nI 0)) hx hb dL_acts_271 (by decide) ?_
      refine lv_goto (tgt := 276) hx hb dL_acts_272 (by decide) ?_
      refine lv_icmp_ne (tgt := 283) hx hb dL_acts_276 (by decide) (fun q => absurd (show (nI skv) = (nI 0) from congrArg nI (show skv = 0 by omega)) q) (fun _ => ?_)
      refine lv_iconst (v := (nI 1)) hx hb dL_acts_279 (by decide) ?_
      refine lv_goto (tgt := 284) hx hb dL_acts_280 (by decide) ?_
      exact jLc_ret hB hr hlocks hP hS dL_acts_284 ⟨0, _, by omega, hI2, hW⟩
    · refine lv_iconst (v := (nI 1)) hx hb dL_acts_217 (by decide) ?_
      refine lv_icmp_ne (tgt := 225) hx hb dL_acts_218 (by decide) (fun _ => ?_) (fun q => absurd q (show ¬ (nI sk) = (nI 1) from fun z => absurd ((nI_eq (a := sk) (b := 1) (by omega) (by omega)).mp z) (by omega)))
      refine lv_iconst (v := (nI 0)) hx hb dL_acts_225 (by decide) ?_
      refine lv_istore (lv' := [(7, .int (nI 0)), (2, .int (nI ba)), (0, .ref (a 0)), (1, .int (nI c))]) hx hb dL_acts_226 hl (by decide) rfl (fun ls hl => ?_)
      refine lv_aload_n hx hb dL_acts_228 rfl (lv_at hl 2 rfl) ?_
      refine lv_iload hx hb dL_acts_229 (lv_at hl 0 rfl) ?_
      refine lk_spark_no hB hP hD hS hW (v0 := nI 0) (Or.inl rfl) (qsk.trans (congrArg nI hsk)) gL_acts_X7_spark hl.1 (Nat.le_of_ble_eq_true rfl) dL_acts_231 (fun H locs hP hD hS => ?_)
      refine lv_bipush (v := (-5)) hx hb dL_acts_234 (by decide) ?_
      refine lv_icmp_ne (tgt := 283) hx hb dL_acts_236 (by decide) (fun q => absurd rfl q) (fun _ => ?_)
      refine lv_aload_n hx hb dL_acts_239 rfl (lv_at hl 2 rfl) ?_
      refine lv_iload hx hb dL_acts_240 (lv_at hl 0 rfl) ?_
      refine lv_if_ne (tgt := 249) hx hb dL_acts_242 (by decide) (fun q => absurd (show (nI 0) = (0 : Int32) from congrArg nI (show 0 = 0 by omega)) q) (fun _ => ?_)
      refine lv_iconst (v := (nI 1)) hx hb dL_acts_245 (by decide) ?_
      refine lv_goto (tgt := 250) hx hb dL_acts_246 (by decide) ?_
      have hI2 : SI t (sv 1 X (upd (X 1) 6 (nI 1))) := SI_eng hI (rgEu_21 (SI_rg hI) (rgn (n := 1) (by omega) (by omega))) (by decide) (by decide)
      obtain ⟨spv, hev, stv, pov, bav, skv, crv, flv, unv, gv, hotv, runv, lostv, e0v, e1v, e2v, e3v, kv, hbdv, qspv, qhev, qstv, qpov, qbav, qskv, qcrv, qflv, qunv, qgv, qhotv, qrunv, qnwv, qlostv, qtv, qkv, qe0v, qe1v, qe2v, qe3v, qlgv, qc0v, qc1v, qc2v, qc3v⟩ := SI_all hI2
      have hskv : skv = 1 := (nI_eq (by omega) (by omega)).mp (qskv.symm.trans (show (sv 1 X (upd (X 1) 6 (nI 1))) 1 6 = nI 1 from rfl))
      have hpov : pov = po := (nI_eq (by omega) (by omega)).mp (qpov.symm.trans (show (sv 1 X (upd (X 1) 6 (nI 1))) 1 4 = nI po from qpo))
      refine lk_spark_ok hB hP hD hS hW (v0 := nI 1) (Or.inr rfl) (by rw [qsk, hsk]; decide) (SI_bo hI2) gL_acts_X7_spark hl.1 (Nat.le_of_ble_eq_true rfl) dL_acts_250 (fun T Z H locs hW hP hD hS => ?_)
      refine W.eq (g2 := F0 m 253 ls [.int (nI po)]) (by rw [qpo]) ?_
      refine lv_aload_n hx hb dL_acts_253 rfl (lv_at hl 2 rfl) ?_
      refine lv_iconst (v := (nI 3)) hx hb dL_acts_254 (by decide) ?_
      refine lk_engine hB hP hD hS hW (v := (nI pov)) ((en_v3 (OSt_X hW)).trans qpov) gL_acts_X7_engine hl.1 (Nat.le_of_ble_eq_true rfl) dL_acts_255 (fun H locs hP hD hS => ?_)
      refine lv_icmp_ne (tgt := 283) hx hb dL_acts_258 (by decide) (fun q => absurd (show (nI po) = (nI pov) from congrArg nI (show po = pov by omega)) q) (fun _ => ?_)
      refine lv_aload_n hx hb dL_acts_261 rfl (lv_at hl 2 rfl) ?_
      refine lv_iconst (v := (nI 4)) hx hb dL_acts_262 (by decide) ?_
      refine lk_engine hB hP hD hS hW (v := (nI skv)) ((en_v4 (OSt_X hW) (n01 qskv (by omega))).trans qskv) gL_acts_X7_engine hl.1 (Nat.le_of_ble_eq_true rfl) dL_acts_263 (fun H locs hP hD hS => ?_)
      refine lv_iload hx hb dL_acts_266 (lv_at hl 0 rfl) ?_
      refine lv_if_eq (tgt := 275) hx hb dL_acts_268 (by decide) (fun _ => ?_) (fun q => absurd (show (nI 0) = (0 : Int32) from congrArg nI (show 0 = 0 by omega)) q)
      refine lv_iconst (v := (nI 1)) hx hb dL_acts_275 (by decide) ?_
      refine lv_icmp_ne (tgt := 283) hx hb dL_acts_276 (by decide) (fun q => absurd (show (nI skv) = (nI 1) from congrArg nI (show skv = 1 by omega)) q) (fun _ => ?_)
      refine lv_iconst (v := (nI 1)) hx hb dL_acts_279 (by decide) ?_
      refine lv_goto (tgt := 284) hx hb dL_acts_280 (by decide) ?_
      exact jLc_ret hB hr hlocks hP hS dL_acts_284 ⟨0, _, by omega, hI2, hW⟩
  · refine lv_tableIn (off := 274) (tgt := 285) hx hb dL_acts_11 (by rcases hd with hd | hd <;> rw [hd] <;> decide) (by rcases hd with hd | hd <;> rw [hd] <;> decide) (by rcases hd with hd | hd <;> rw [hd] <;> decide) (by decide) ?_
    refine lv_aload_n hx hb dL_acts_285 rfl (lv_at hl 1 rfl) ?_
    refine lv_iconst (v := (nI 2)) hx hb dL_acts_286 (by decide) ?_
    refine lk_engine hB hP hD hS hW (v := (nI st)) ((en_v2 (OSt_X hW)).trans qst) gL_acts_X7_engine hl.1 (Nat.le_of_ble_eq_true rfl) dL_acts_287 (fun H locs hP hD hS => ?_)
    refine lv_istore (lv' := [(8, .int (nI st)), (2, .int (nI ba)), (0, .ref (a 0)), (1, .int (nI c))]) hx hb dL_acts_290 hl (by decide) rfl (fun ls hl => ?_)
    refine lv_aload_n hx hb dL_acts_292 rfl (lv_at hl 2 rfl) ?_
    refine lv_iload_n hx hb dL_acts_293 rfl (lv_at hl 3 rfl) ?_
    refine lv_iconst (v := (nI 4)) hx hb dL_acts_294 (by decide) ?_
    refine lv_ishr hx hb dL_acts_295 ?_
    refine lv_bipush (v := (nI 11)) hx hb dL_acts_296 (by decide) ?_
    refine lv_irem hx hb dL_acts_298 (by decide) ?_
    obtain ⟨u2, hu2, eu2⟩ := shr_rem (c := c) (d := 11) ((nI 4) &&& 31) 4 (by omega) (by decide) (by omega) (by omega)
    refine W.eq (g2 := F0 m 299 ls [.int (nI u2), .ref (a 0)]) (by rw [eu2]) ?_
    have hI2 : SI t (sv 1 X (upd (X 1) 3 (nI u2))) := SI_eng hI (rgEu_19 (SI_rg hI) (rgn (n := u2) (by omega) (by omega))) (by decide) (by decide)
    obtain ⟨spv, hev, stv, pov, bav, skv, crv, flv, unv, gv, hotv, runv, lostv, e0v, e1v, e2v, e3v, kv, hbdv, qspv, qhev, qstv, qpov, qbav, qskv, qcrv, qflv, qunv, qgv, qhotv, qrunv, qnwv, qlostv, qtv, qkv, qe0v, qe1v, qe2v, qe3v, qlgv, qc0v, qc1v, qc2v, qc3v⟩ := SI_all hI2
    have hstv : stv = u2 := (nI_eq (by omega) (by omega)).mp (qstv.symm.trans (show (sv 1 X (upd (X 1) 3 (nI u2))) 1 3 = nI u2 from rfl))
    refine lk_fuel hB hP hD hS hW (n := u2) (by omega) (SI_bo hI2) gL_acts_X7_fuel hl.1 (Nat.le_of_ble_eq_true rfl) dL_acts_299 (fun T Z H locs hW hP hD hS => ?_)
    refine W.eq (g2 := F0 m 302 ls [.int (nI st)]) (by rw [qst]) ?_
    refine lv_iload hx hb dL_acts_302 (lv_at hl 0 rfl) ?_
    refine lv_icmp_ne (tgt := 325) hx hb dL_acts_304 (by decide) (fun q => absurd (show (nI st) = (nI st) from congrArg nI (show st = st by omega)) q) (fun _ => ?_)
    refine lv_aload_n hx hb dL_acts_307 rfl (lv_at hl 2 rfl) ?_
    refine lv_iconst (v := (nI 2)) hx hb dL_acts_308 (by decide) ?_
    refine lk_engine hB hP hD hS hW (v := (nI stv)) ((en_v2 (OSt_X hW)).trans qstv) gL_acts_X7_engine hl.1 (Nat.le_of_ble_eq_true rfl) dL_acts_309 (fun H locs hP hD hS => ?_)
    refine lv_iload_n hx hb dL_acts_312 rfl (lv_at hl 3 rfl) ?_
    refine lv_iconst (v := (nI 4)) hx hb dL_acts_313 (by decide) ?_
    refine lv_ishr hx hb dL_acts_314 ?_
    refine lv_bipush (v := (nI 11)) hx hb dL_acts_315 (by decide) ?_
    refine lv_irem hx hb dL_acts_317 (by decide) ?_
    refine W.eq (g2 := F0 m 318 ls [.int (nI u2), .int (nI stv)]) (by rw [eu2]) ?_
    refine lv_icmp_ne (tgt := 325) hx hb dL_acts_318 (by decide) (fun q => absurd (show (nI stv) = (nI u2) from congrArg nI (show stv = u2 by omega)) q) (fun _ => ?_)
    refine lv_iconst (v := (nI 1)) hx hb dL_acts_321 (by decide) ?_
    refine lv_goto (tgt := 326) hx hb dL_acts_322 (by decide) ?_
    exact jLc_ret hB hr hlocks hP hS dL_acts_326 ⟨0, _, by omega, hI2, hW⟩
  · refine lv_tableIn (off := 316) (tgt := 327) hx hb dL_acts_11 (by rw [hd]; decide) (by rw [hd]; decide) (by rw [hd]; decide) (by decide) ?_
    refine lv_aload_n hx hb dL_acts_327 rfl (lv_at hl 1 rfl) ?_
    refine lv_iconst (v := (nI 3)) hx hb dL_acts_328 (by decide) ?_
    refine lk_engine hB hP hD hS hW (v := (nI po)) ((en_v3 (OSt_X hW)).trans qpo) gL_acts_X7_engine hl.1 (Nat.le_of_ble_eq_true rfl) dL_acts_329 (fun H locs hP hD hS => ?_)
    refine lv_istore (lv' := [(9, .int (nI po)), (2, .int (nI ba)), (0, .ref (a 0)), (1, .int (nI c))]) hx hb dL_acts_332 hl (by decide) rfl (fun ls hl => ?_)
    refine lv_aload_n hx hb dL_acts_334 rfl (lv_at hl 2 rfl) ?_
    refine lv_bipush (v := (nI 6)) hx hb dL_acts_335 (by decide) ?_
    rcases (show fl = 1 ∨ fl = 0 by omega) with hfl | hfl
    · refine lk_engine hB hP hD hS hW (v := (nI fl)) ((en_v6 (OSt_X hW) (n01 qfl (by omega))).trans qfl) gL_acts_X7_engine hl.1 (Nat.le_of_ble_eq_true rfl) dL_acts_337 (fun H locs hP hD hS => ?_)
      refine lv_iconst (v := (nI 1)) hx hb dL_acts_340 (by decide) ?_
      refine lv_icmp_ne (tgt := 348) hx hb dL_acts_341 (by decide) (fun q => absurd (show (nI fl) = (nI 1) from congrArg nI (show fl = 1 by omega)) q) (fun _ => ?_)
      refine lv_iconst (v := (nI 1)) hx hb dL_acts_344 (by decide) ?_
      refine lv_goto (tgt := 349) hx hb dL_acts_345 (by decide) ?_
      refine lv_istore (lv' := [(10, .int (nI 1)), (9, .int (nI po)), (2, .int (nI ba)), (0, .ref (a 0)), (1, .int (nI c))]) hx hb dL_acts_349 hl (by decide) rfl (fun ls hl => ?_)
      refine lv_iload_n hx hb dL_acts_351 rfl (lv_at hl 4 rfl) ?_
      refine lv_iconst (v := (nI 4)) hx hb dL_acts_352 (by decide) ?_
      refine lv_ishr hx hb dL_acts_353 ?_
      refine lv_iconst (v := (nI 3)) hx hb dL_acts_354 (by decide) ?_
      refine lv_irem hx hb dL_acts_355 (by decide) ?_
      obtain ⟨u3, hu3, eu3⟩ := shr_rem (c := c) (d := 3) ((nI 4) &&& 31) 4 (by omega) (by decide) (by omega) (by omega)
      refine W.eq (g2 := F0 m 356 ls [.int (nI u3)]) (by rw [eu3]) ?_
      rcases (show u3 = 0 ∨ 0 < u3 by omega) with hdr | hdr
      · refine lv_if_gt (tgt := 391) hx hb dL_acts_356 (by decide) (fun q => absurd q (show ¬ (0 : Int32) < (nI u3) from nI_nlt (b := u3) (a := 0) (by omega) (by omega))) (fun _ => ?_)
        refine lv_aload_n hx hb dL_acts_359 rfl (lv_at hl 3 rfl) ?_
        refine lk_drain_no hB hP hD hS hW (by rw [qfl, hfl]; decide) gL_acts_X7_drain hl.1 (Nat.le_of_ble_eq_true rfl) dL_acts_360 (fun H locs hP hD hS => ?_)
        refine lv_iload hx hb dL_acts_363 (lv_at hl 0 rfl) ?_
        refine lv_if_eq (tgt := 373) hx hb dL_acts_365 (by decide) (fun q => absurd q (show ¬ (nI 1) = (0 : Int32) from fun z => absurd ((nI_eq (a := 1) (b := 0) (by omega) (by omega)).mp z) (by omega))) (fun _ => ?_)
        refine lv_bipush (v := (-5)) hx hb dL_acts_368 (by decide) ?_
        refine lv_goto (tgt := 375) hx hb dL_acts_370 (by decide) ?_
        refine lv_icmp_ne (tgt := 395) hx hb dL_acts_375 (by decide) (fun q => absurd rfl q) (fun _ => ?_)
        refine lv_iload hx hb dL_acts_378 (lv_at hl 0 rfl) ?_
        refine lv_if_ne (tgt := 391) hx hb dL_acts_380 (by decide) (fun _ => ?_) (fun q => absurd q (show ¬ (nI 1) = (0 : Int32) from fun z => absurd ((nI_eq (a := 1) (b := 0) (by omega) (by omega)).mp z) (by omega)))
        refine lv_iconst (v := (nI 1)) hx hb dL_acts_391 (by decide) ?_
        refine lv_goto (tgt := 396) hx hb dL_acts_392 (by decide) ?_
        exact jLc_ret hB hr hlocks hP hS dL_acts_396 ⟨0, X, by omega, hI, hW⟩
      · refine lv_if_gt (tgt := 391) hx hb dL_acts_356 (by decide) (fun _ => ?_) (fun q => absurd (show (0 : Int32) < (nI u3) from nI_lt (a := 0) (b := u3) (by omega) (by omega)) q)
        refine lv_iconst (v := (nI 1)) hx hb dL_acts_391 (by decide) ?_
        refine lv_goto (tgt := 396) hx hb dL_acts_392 (by decide) ?_
        exact jLc_ret hB hr hlocks hP hS dL_acts_396 ⟨0, X, by omega, hI, hW⟩
    · refine lk_engine hB hP hD hS hW (v := (nI fl)) ((en_v6 (OSt_X hW) (n01 qfl (by omega))).trans qfl) gL_acts_X7_engine hl.1 (Nat.le_of_ble_eq_true rfl) dL_acts_337 (fun H locs hP hD hS => ?_)
      refine lv_iconst (v := (nI 1)) hx hb dL_acts_340 (by decide) ?_
      refine lv_icmp_ne (tgt := 348) hx hb dL_acts_341 (by decide) (fun _ => ?_) (fun q => absurd q (show ¬ (nI fl) = (nI 1) from fun z => absurd ((nI_eq (a := fl) (b := 1) (by omega) (by omega)).mp z) (by omega)))
      refine lv_iconst (v := (nI 0)) hx hb dL_acts_348 (by decide) ?_
      refine lv_istore (lv' := [(10, .int (nI 0)), (9, .int (nI po)), (2, .int (nI ba)), (0, .ref (a 0)), (1, .int (nI c))]) hx hb dL_acts_349 hl (by decide) rfl (fun ls hl => ?_)
      refine lv_iload_n hx hb dL_acts_351 rfl (lv_at hl 4 rfl) ?_
      refine lv_iconst (v := (nI 4)) hx hb dL_acts_352 (by decide) ?_
      refine lv_ishr hx hb dL_acts_353 ?_
      refine lv_iconst (v := (nI 3)) hx hb dL_acts_354 (by decide) ?_
      refine lv_irem hx hb dL_acts_355 (by decide) ?_
      obtain ⟨u4, hu4, eu4⟩ := shr_rem (c := c) (d := 3) ((nI 4) &&& 31) 4 (by omega) (by decide) (by omega) (by omega)
      refine W.eq (g2 := F0 m 356 ls [.int (nI u4)]) (by rw [eu4]) ?_
      rcases (show u4 = 0 ∨ 0 < u4 by omega) with hdr | hdr
      · refine lv_if_gt (tgt := 391) hx hb dL_acts_356 (by decide) (fun q => absurd q (show ¬ (0 : Int32) < (nI u4) from nI_nlt (b := u4) (a := 0) (by omega) (by omega))) (fun _ => ?_)
        refine lv_aload_n hx hb dL_acts_359 rfl (lv_at hl 3 rfl) ?_
        have hI2 : SI t (sv 1 X (upd (X 1) 4 0)) := SI_eng hI (rgEu_20 (SI_rg hI) rg0) (by decide) (by decide)
        obtain ⟨spv, hev, stv, pov, bav, skv, crv, flv, unv, gv, hotv, runv, lostv, e0v, e1v, e2v, e3v, kv, hbdv, qspv, qhev, qstv, qpov, qbav, qskv, qcrv, qflv, qunv, qgv, qhotv, qrunv, qnwv, qlostv, qtv, qkv, qe0v, qe1v, qe2v, qe3v, qlgv, qc0v, qc1v, qc2v, qc3v⟩ := SI_all hI2
        have hpov : pov = 0 := (nI_eq (by omega) (by omega)).mp (qpov.symm.trans (show (sv 1 X (upd (X 1) 4 0)) 1 4 = nI 0 from rfl))
        refine lk_drain_ok hB hP hD hS hW (qfl.trans (congrArg nI hfl)) (SI_bo hI2) gL_acts_X7_drain hl.1 (Nat.le_of_ble_eq_true rfl) dL_acts_360 (fun T Z H locs hW hP hD hS => ?_)
        refine W.eq (g2 := F0 m 363 ls [.int (nI po)]) (by rw [qpo]) ?_
        refine lv_iload hx hb dL_acts_363 (lv_at hl 0 rfl) ?_
        refine lv_if_eq (tgt := 373) hx hb dL_acts_365 (by decide) (fun _ => ?_) (fun q => absurd (show (nI 0) = (0 : Int32) from congrArg nI (show 0 = 0 by omega)) q)
        refine lv_iload hx hb dL_acts_373 (lv_at hl 1 rfl) ?_
        refine lv_icmp_ne (tgt := 395) hx hb dL_acts_375 (by decide) (fun q => absurd (show (nI po) = (nI po) from congrArg nI (show po = po by omega)) q) (fun _ => ?_)
        refine lv_iload hx hb dL_acts_378 (lv_at hl 0 rfl) ?_
        refine lv_if_ne (tgt := 391) hx hb dL_acts_380 (by decide) (fun q => absurd (show (nI 0) = (0 : Int32) from congrArg nI (show 0 = 0 by omega)) q) (fun _ => ?_)
        refine lv_aload_n hx hb dL_acts_383 rfl (lv_at hl 3 rfl) ?_
        refine lv_iconst (v := (nI 3)) hx hb dL_acts_384 (by decide) ?_
        refine lk_engine hB hP hD hS hW (v := (nI pov)) ((en_v3 (OSt_X hW)).trans qpov) gL_acts_X7_engine hl.1 (Nat.le_of_ble_eq_true rfl) dL_acts_385 (fun H locs hP hD hS => ?_)
        refine lv_if_ne (tgt := 395) hx hb dL_acts_388 (by decide) (fun q => absurd (show (nI pov) = (0 : Int32) from congrArg nI (show pov = 0 by omega)) q) (fun _ => ?_)
        refine lv_iconst (v := (nI 1)) hx hb dL_acts_391 (by decide) ?_
        refine lv_goto (tgt := 396) hx hb dL_acts_392 (by decide) ?_
        exact jLc_ret hB hr hlocks hP hS dL_acts_396 ⟨0, _, by omega, hI2, hW⟩
      · refine lv_if_gt (tgt := 391) hx hb dL_acts_356 (by decide) (fun _ => ?_) (fun q => absurd (show (0 : Int32) < (nI u4) from nI_lt (a := 0) (b := u4) (by omega) (by omega)) q)
        refine lv_iconst (v := (nI 1)) hx hb dL_acts_391 (by decide) ?_
        refine lv_goto (tgt := 396) hx hb dL_acts_392 (by decide) ?_
        exact jLc_ret hB hr hlocks hP hS dL_acts_396 ⟨0, X, by omega, hI, hW⟩
  · refine lv_tableIn (off := 386) (tgt := 397) hx hb dL_acts_11 (by rw [hd]; decide) (by rw [hd]; decide) (by rw [hd]; decide) (by decide) ?_
    refine lv_iload_n hx hb dL_acts_397 rfl (lv_at hl 2 rfl) ?_
    refine lv_iconst (v := (nI 4)) hx hb dL_acts_398 (by decide) ?_
    refine lv_ishr hx hb dL_acts_399 ?_
    refine lv_bipush (v := (nI 7)) hx hb dL_acts_400 (by decide) ?_
    refine lv_irem hx hb dL_acts_402 (by decide) ?_
    obtain ⟨u5, hu5, eu5⟩ := shr_rem (c := c) (d := 7) ((nI 4) &&& 31) 4 (by omega) (by decide) (by omega) (by omega)
    refine W.eq (g2 := F0 m 403 ls [.int (nI u5)]) (by rw [eu5]) ?_
    refine lv_istore (lv' := [(11, .int (nI u5)), (2, .int (nI ba)), (0, .ref (a 0)), (1, .int (nI c))]) hx hb dL_acts_403 hl (by decide) rfl (fun ls hl => ?_)
    rcases (show u5 = 1 ∨ u5 = 4 ∨ u5 = 5 ∨ u5 = 6 ∨ (u5 = 0 ∨ u5 = 2 ∨ u5 = 3) by omega) with hw | hw | hw | hw | hw
    · refine lv_iload hx hb dL_acts_405 (lv_at hl 0 rfl) ?_
      refine lv_iconst (v := (nI 1)) hx hb dL_acts_407 (by decide) ?_
      refine lv_icmp_ne (tgt := 423) hx hb dL_acts_408 (by decide) (fun q => absurd (show (nI u5) = (nI 1) from congrArg nI (show u5 = 1 by omega)) q) (fun _ => ?_)
      refine lv_iconst (v := (nI 1)) hx hb dL_acts_411 (by decide) ?_
      refine lv_iload_n hx hb dL_acts_412 rfl (lv_at hl 3 rfl) ?_
      refine lv_bipush (v := (nI 8)) hx hb dL_acts_413 (by decide) ?_
      refine lv_ishr hx hb dL_acts_415 ?_
      refine lv_bipush (v := (nI 20)) hx hb dL_acts_416 (by decide) ?_
      refine lv_irem hx hb dL_acts_418 (by decide) ?_
      obtain ⟨u6, hu6, eu6⟩ := shr_rem (c := c) (d := 20) ((nI 8) &&& 31) 8 (by omega) (by decide) (by omega) (by omega)
      refine W.eq (g2 := F0 m 419 ls [.int (nI u6), .int (nI 1)]) (by rw [eu6]) ?_
      refine lv_iadd hx hb dL_acts_419 ?_
      refine W.eq (g2 := F0 m 420 ls [.int (nI (1 + u6))]) (by rw [nI_add]) ?_
      refine lv_goto (tgt := 492) hx hb dL_acts_420 (by decide) ?_
      obtain ⟨vv, hvv⟩ : ∃ vv : Nat, vv = 1 + u6 := ⟨_, rfl⟩
      refine W.eq (g2 := F0 m 492 ls [.int (nI vv)]) (by rw [hvv]) ?_
      obtain ⟨hl1, hl2, hl3⟩ := set_ok (SI_rg hI) (i := u5) (v := vv) (by omega)
      obtain ⟨hd1, hd2, qhd⟩ := set_rg (SI_rg hI) (i := u5) (by omega)
      refine lv_istore (lv' := [(12, .int (nI vv)), (11, .int (nI u5)), (2, .int (nI ba)), (0, .ref (a 0)), (1, .int (nI c))]) hx hb dL_acts_492 hl (by decide) rfl (fun ls hl => ?_)
      refine lv_aload_n hx hb dL_acts_494 rfl (lv_at hl 3 rfl) ?_
      refine lv_iload hx hb dL_acts_495 (lv_at hl 1 rfl) ?_
      refine lk_count hB hP hD hS hW (v := (nI hd1)) ((co_set (OSt_X hW) (by omega)).trans qhd) gL_acts_X7_count hl.1 (Nat.le_of_ble_eq_true rfl) dL_acts_497 (fun H locs hP hD hS => ?_)
      refine lv_istore (lv' := [(13, .int (nI hd1)), (12, .int (nI vv)), (11, .int (nI u5)), (2, .int (nI ba)), (0, .ref (a 0)), (1, .int (nI c))]) hx hb dL_acts_500 hl (by decide) rfl (fun ls hl => ?_)
      refine lv_iload_n hx hb dL_acts_502 rfl (lv_at hl 5 rfl) ?_
      refine lv_bipush (v := (nI 20)) hx hb dL_acts_503 (by decide) ?_
      refine lv_ishr hx hb dL_acts_505 ?_
      refine lv_iconst (v := (nI 2)) hx hb dL_acts_506 (by decide) ?_
      refine lv_irem hx hb dL_acts_507 (by decide) ?_
      obtain ⟨u7, hu7, eu7⟩ := shr_rem (c := c) (d := 2) ((nI 20) &&& 31) 20 (by omega) (by decide) (by omega) (by omega)
      refine W.eq (g2 := F0 m 508 ls [.int (nI u7)]) (by rw [eu7]) ?_
      rcases (show u7 = 0 ∨ u7 = 1 by omega) with hbs | hbs
      · refine lv_if_ne (tgt := 539) hx hb dL_acts_508 (by decide) (fun q => absurd (show (nI u7) = (0 : Int32) from congrArg nI (show u7 = 0 by omega)) q) (fun _ => ?_)
        refine lv_aload_n hx hb dL_acts_511 rfl (lv_at hl 4 rfl) ?_
        refine lv_sipush (v := (nI 300)) hx hb dL_acts_512 (by decide) ?_
        refine lv_iload_n hx hb dL_acts_515 rfl (lv_at hl 5 rfl) ?_
        refine lv_bipush (v := (nI 8)) hx hb dL_acts_516 (by decide) ?_
        refine lv_ishr hx hb dL_acts_518 ?_
        refine lv_sipush (v := (nI 701)) hx hb dL_acts_519 (by decide) ?_
        refine lv_irem hx hb dL_acts_522 (by decide) ?_
        obtain ⟨u8, hu8, eu8⟩ := shr_rem (c := c) (d := 701) ((nI 8) &&& 31) 8 (by omega) (by decide) (by omega) (by omega)
        refine W.eq (g2 := F0 m 523 ls [.int (nI u8), .int (nI 300), .ref (a 0)]) (by rw [eu8]) ?_
        refine lv_iadd hx hb dL_acts_523 ?_
        refine W.eq (g2 := F0 m 524 ls [.int (nI (300 + u8)), .ref (a 0)]) (by rw [nI_add]) ?_
        have hI2 : SI t (sv 1 X (upd (X 1) 5 (nI (300 + u8)))) := SI_eng hI (rgEu_24 (SI_rg hI) (rgn (n := 300 + u8) (by omega) (by omega))) (by decide) (by decide)
        refine lk_battery hB hP hD hS hW (n := 300 + u8) (by omega) (SI_bo hI2) gL_acts_X7_battery hl.1 (Nat.le_of_ble_eq_true rfl) dL_acts_524 (fun T Z H locs hW hP hD hS => ?_)
        refine W.eq (g2 := F0 m 527 ls [.int (nI ba)]) (by rw [qba]) ?_
        refine lv_iload_n hx hb dL_acts_527 rfl (lv_at hl 3 rfl) ?_
        refine lv_icmp_ne (tgt := 535) hx hb dL_acts_528 (by decide) (fun q => absurd (show (nI ba) = (nI ba) from congrArg nI (show ba = ba by omega)) q) (fun _ => ?_)
        refine lv_iconst (v := (nI 1)) hx hb dL_acts_531 (by decide) ?_
        refine lv_goto (tgt := 568) hx hb dL_acts_532 (by decide) ?_
        exact jLc_ret hB hr hlocks hP hS dL_acts_568 ⟨0, _, by omega, hI2, hW⟩
      · refine lv_if_ne (tgt := 539) hx hb dL_acts_508 (by decide) (fun _ => ?_) (fun q => absurd q (show ¬ (nI u7) = (0 : Int32) from fun z => absurd ((nI_eq (a := u7) (b := 0) (by omega) (by omega)).mp z) (by omega)))
        refine lv_aload_n hx hb dL_acts_539 rfl (lv_at hl 4 rfl) ?_
        refine lv_iload hx hb dL_acts_540 (lv_at hl 2 rfl) ?_
        refine lv_iload hx hb dL_acts_542 (lv_at hl 1 rfl) ?_
        have hI2 : SI t (sv 2 X (upd (X 2) u5 (nI vv))) := SI_set hI hl3
        refine lk_set hB hP hD hS hW (i := u5) (n := vv) (by omega) hl1 hl2 (SI_bo hI2) gL_acts_X7_set hl.1 (Nat.le_of_ble_eq_true rfl) dL_acts_544 (fun T Z H locs hW hP hD hS => ?_)
        refine W.eq (g2 := F0 m 547 ls [.int (nI hd1)]) (by rw [qhd]) ?_
        refine lv_iload hx hb dL_acts_547 (lv_at hl 0 rfl) ?_
        refine lv_icmp_ne (tgt := 567) hx hb dL_acts_549 (by decide) (fun q => absurd (show (nI hd1) = (nI hd1) from congrArg nI (show hd1 = hd1 by omega)) q) (fun _ => ?_)
        refine lv_aload_n hx hb dL_acts_552 rfl (lv_at hl 4 rfl) ?_
        refine lv_iload hx hb dL_acts_553 (lv_at hl 2 rfl) ?_
        refine lk_count hB hP hD hS hW (v := (nI vv)) ((co_set (OSt_X hW) (by omega)).trans (by rw [sv_us, pk_us])) gL_acts_X7_count hl.1 (Nat.le_of_ble_eq_true rfl) dL_acts_555 (fun H locs hP hD hS => ?_)
        refine lv_iload hx hb dL_acts_558 (lv_at hl 1 rfl) ?_
        refine lv_icmp_ne (tgt := 567) hx hb dL_acts_560 (by decide) (fun q => absurd (show (nI vv) = (nI vv) from congrArg nI (show vv = vv by omega)) q) (fun _ => ?_)
        refine lv_iconst (v := (nI 1)) hx hb dL_acts_563 (by decide) ?_
        refine lv_goto (tgt := 568) hx hb dL_acts_564 (by decide) ?_
        exact jLc_ret hB hr hlocks hP hS dL_acts_568 ⟨0, _, by omega, hI2, hW⟩
    · refine lv_iload hx hb dL_acts_405 (lv_at hl 0 rfl) ?_
      refine lv_iconst (v := (nI 1)) hx hb dL_acts_407 (by decide) ?_
      refine lv_icmp_ne (tgt := 423) hx hb dL_acts_408 (by decide) (fun _ => ?_) (fun q => absurd q (show ¬ (nI u5) = (nI 1) from fun z => absurd ((nI_eq (a := u5) (b := 1) (by omega) (by omega)).mp z) (by omega)))
      refine lv_iload hx hb dL_acts_423 (lv_at hl 0 rfl) ?_
      refine lv_iconst (v := (nI 4)) hx hb dL_acts_425 (by decide) ?_
      refine lv_icmp_ne (tgt := 444) hx hb dL_acts_426 (by decide) (fun q => absurd (show (nI u5) = (nI 4) from congrArg nI (show u5 = 4 by omega)) q) (fun _ => ?_)
      refine lv_sipush (v := (nI 300)) hx hb dL_acts_429 (by decide) ?_
      refine lv_iload_n hx hb dL_acts_432 rfl (lv_at hl 3 rfl) ?_
      refine lv_bipush (v := (nI 8)) hx hb dL_acts_433 (by decide) ?_
      refine lv_ishr hx hb dL_acts_435 ?_
      refine lv_sipush (v := (nI 1201)) hx hb dL_acts_436 (by decide) ?_
      refine lv_irem hx hb dL_acts_439 (by decide) ?_
      obtain ⟨u9, hu9, eu9⟩ := shr_rem (c := c) (d := 1201) ((nI 8) &&& 31) 8 (by omega) (by decide) (by omega) (by omega)
      refine W.eq (g2 := F0 m 440 ls [.int (nI u9), .int (nI 300)]) (by rw [eu9]) ?_
      refine lv_iadd hx hb dL_acts_440 ?_
      refine W.eq (g2 := F0 m 441 ls [.int (nI (300 + u9))]) (by rw [nI_add]) ?_
      refine lv_goto (tgt := 492) hx hb dL_acts_441 (by decide) ?_
      obtain ⟨vv, hvv⟩ : ∃ vv : Nat, vv = 300 + u9 := ⟨_, rfl⟩
      refine W.eq (g2 := F0 m 492 ls [.int (nI vv)]) (by rw [hvv]) ?_
      obtain ⟨hl1, hl2, hl3⟩ := set_ok (SI_rg hI) (i := u5) (v := vv) (by omega)
      obtain ⟨hd1, hd2, qhd⟩ := set_rg (SI_rg hI) (i := u5) (by omega)
      refine lv_istore (lv' := [(12, .int (nI vv)), (11, .int (nI u5)), (2, .int (nI ba)), (0, .ref (a 0)), (1, .int (nI c))]) hx hb dL_acts_492 hl (by decide) rfl (fun ls hl => ?_)
      refine lv_aload_n hx hb dL_acts_494 rfl (lv_at hl 3 rfl) ?_
      refine lv_iload hx hb dL_acts_495 (lv_at hl 1 rfl) ?_
      refine lk_count hB hP hD hS hW (v := (nI hd1)) ((co_set (OSt_X hW) (by omega)).trans qhd) gL_acts_X7_count hl.1 (Nat.le_of_ble_eq_true rfl) dL_acts_497 (fun H locs hP hD hS => ?_)
      refine lv_istore (lv' := [(13, .int (nI hd1)), (12, .int (nI vv)), (11, .int (nI u5)), (2, .int (nI ba)), (0, .ref (a 0)), (1, .int (nI c))]) hx hb dL_acts_500 hl (by decide) rfl (fun ls hl => ?_)
      refine lv_iload_n hx hb dL_acts_502 rfl (lv_at hl 5 rfl) ?_
      refine lv_bipush (v := (nI 20)) hx hb dL_acts_503 (by decide) ?_
      refine lv_ishr hx hb dL_acts_505 ?_
      refine lv_iconst (v := (nI 2)) hx hb dL_acts_506 (by decide) ?_
      refine lv_irem hx hb dL_acts_507 (by decide) ?_
      obtain ⟨u10, hu10, eu10⟩ := shr_rem (c := c) (d := 2) ((nI 20) &&& 31) 20 (by omega) (by decide) (by omega) (by omega)
      refine W.eq (g2 := F0 m 508 ls [.int (nI u10)]) (by rw [eu10]) ?_
      rcases (show u10 = 0 ∨ u10 = 1 by omega) with hbs | hbs
      · refine lv_if_ne (tgt := 539) hx hb dL_acts_508 (by decide) (fun q => absurd (show (nI u10) = (0 : Int32) from congrArg nI (show u10 = 0 by omega)) q) (fun _ => ?_)
        refine lv_aload_n hx hb dL_acts_511 rfl (lv_at hl 4 rfl) ?_
        refine lv_sipush (v := (nI 300)) hx hb dL_acts_512 (by decide) ?_
        refine lv_iload_n hx hb dL_acts_515 rfl (lv_at hl 5 rfl) ?_
        refine lv_bipush (v := (nI 8)) hx hb dL_acts_516 (by decide) ?_
        refine lv_ishr hx hb dL_acts_518 ?_
        refine lv_sipush (v := (nI 701)) hx hb dL_acts_519 (by decide) ?_
        refine lv_irem hx hb dL_acts_522 (by decide) ?_
        obtain ⟨u11, hu11, eu11⟩ := shr_rem (c := c) (d := 701) ((nI 8) &&& 31) 8 (by omega) (by decide) (by omega) (by omega)
        refine W.eq (g2 := F0 m 523 ls [.int (nI u11), .int (nI 300), .ref (a 0)]) (by rw [eu11]) ?_
        refine lv_iadd hx hb dL_acts_523 ?_
        refine W.eq (g2 := F0 m 524 ls [.int (nI (300 + u11)), .ref (a 0)]) (by rw [nI_add]) ?_
        have hI2 : SI t (sv 1 X (upd (X 1) 5 (nI (300 + u11)))) := SI_eng hI (rgEu_24 (SI_rg hI) (rgn (n := 300 + u11) (by omega) (by omega))) (by decide) (by decide)
        refine lk_battery hB hP hD hS hW (n := 300 + u11) (by omega) (SI_bo hI2) gL_acts_X7_battery hl.1 (Nat.le_of_ble_eq_true rfl) dL_acts_524 (fun T Z H locs hW hP hD hS => ?_)
        refine W.eq (g2 := F0 m 527 ls [.int (nI ba)]) (by rw [qba]) ?_
        refine lv_iload_n hx hb dL_acts_527 rfl (lv_at hl 3 rfl) ?_
        refine lv_icmp_ne (tgt := 535) hx hb dL_acts_528 (by decide) (fun q => absurd (show (nI ba) = (nI ba) from congrArg nI (show ba = ba by omega)) q) (fun _ => ?_)
        refine lv_iconst (v := (nI 1)) hx hb dL_acts_531 (by decide) ?_
        refine lv_goto (tgt := 568) hx hb dL_acts_532 (by decide) ?_
        exact jLc_ret hB hr hlocks hP hS dL_acts_568 ⟨0, _, by omega, hI2, hW⟩
      · refine lv_if_ne (tgt := 539) hx hb dL_acts_508 (by decide) (fun _ => ?_) (fun q => absurd q (show ¬ (nI u10) = (0 : Int32) from fun z => absurd ((nI_eq (a := u10) (b := 0) (by omega) (by omega)).mp z) (by omega)))
        refine lv_aload_n hx hb dL_acts_539 rfl (lv_at hl 4 rfl) ?_
        refine lv_iload hx hb dL_acts_540 (lv_at hl 2 rfl) ?_
        refine lv_iload hx hb dL_acts_542 (lv_at hl 1 rfl) ?_
        have hI2 : SI t (sv 2 X (upd (X 2) u5 (nI vv))) := SI_set hI hl3
        refine lk_set hB hP hD hS hW (i := u5) (n := vv) (by omega) hl1 hl2 (SI_bo hI2) gL_acts_X7_set hl.1 (Nat.le_of_ble_eq_true rfl) dL_acts_544 (fun T Z H locs hW hP hD hS => ?_)
        refine W.eq (g2 := F0 m 547 ls [.int (nI hd1)]) (by rw [qhd]) ?_
        refine lv_iload hx hb dL_acts_547 (lv_at hl 0 rfl) ?_
        refine lv_icmp_ne (tgt := 567) hx hb dL_acts_549 (by decide) (fun q => absurd (show (nI hd1) = (nI hd1) from congrArg nI (show hd1 = hd1 by omega)) q) (fun _ => ?_)
        refine lv_aload_n hx hb dL_acts_552 rfl (lv_at hl 4 rfl) ?_
        refine lv_iload hx hb dL_acts_553 (lv_at hl 2 rfl) ?_
        refine lk_count hB hP hD hS hW (v := (nI vv)) ((co_set (OSt_X hW) (by omega)).trans (by rw [sv_us, pk_us])) gL_acts_X7_count hl.1 (Nat.le_of_ble_eq_true rfl) dL_acts_555 (fun H locs hP hD hS => ?_)
        refine lv_iload hx hb dL_acts_558 (lv_at hl 1 rfl) ?_
        refine lv_icmp_ne (tgt := 567) hx hb dL_acts_560 (by decide) (fun q => absurd (show (nI vv) = (nI vv) from congrArg nI (show vv = vv by omega)) q) (fun _ => ?_)
        refine lv_iconst (v := (nI 1)) hx hb dL_acts_563 (by decide) ?_
        refine lv_goto (tgt := 568) hx hb dL_acts_564 (by decide) ?_
        exact jLc_ret hB hr hlocks hP hS dL_acts_568 ⟨0, _, by omega, hI2, hW⟩
    · refine lv_iload hx hb dL_acts_405 (lv_at hl 0 rfl) ?_
      refine lv_iconst (v := (nI 1)) hx hb dL_acts_407 (by decide) ?_
      refine lv_icmp_ne (tgt := 423) hx hb dL_acts_408 (by decide) (fun _ => ?_) (fun q => absurd q (show ¬ (nI u5) = (nI 1) from fun z => absurd ((nI_eq (a := u5) (b := 1) (by omega) (by omega)).mp z) (by omega)))
      refine lv_iload hx hb dL_acts_423 (lv_at hl 0 rfl) ?_
      refine lv_iconst (v := (nI 4)) hx hb dL_acts_425 (by decide) ?_
      refine lv_icmp_ne (tgt := 444) hx hb dL_acts_426 (by decide) (fun _ => ?_) (fun q => absurd q (show ¬ (nI u5) = (nI 4) from fun z => absurd ((nI_eq (a := u5) (b := 4) (by omega) (by omega)).mp z) (by omega)))
      refine lv_iload hx hb dL_acts_444 (lv_at hl 0 rfl) ?_
      refine lv_iconst (v := (nI 5)) hx hb dL_acts_446 (by decide) ?_
      refine lv_icmp_ne (tgt := 464) hx hb dL_acts_447 (by decide) (fun q => absurd (show (nI u5) = (nI 5) from congrArg nI (show u5 = 5 by omega)) q) (fun _ => ?_)
      refine lv_bipush (v := (nI 20)) hx hb dL_acts_450 (by decide) ?_
      refine lv_iload_n hx hb dL_acts_452 rfl (lv_at hl 3 rfl) ?_
      refine lv_bipush (v := (nI 8)) hx hb dL_acts_453 (by decide) ?_
      refine lv_ishr hx hb dL_acts_455 ?_
      refine lv_sipush (v := (nI 381)) hx hb dL_acts_456 (by decide) ?_
      refine lv_irem hx hb dL_acts_459 (by decide) ?_
      obtain ⟨u12, hu12, eu12⟩ := shr_rem (c := c) (d := 381) ((nI 8) &&& 31) 8 (by omega) (by decide) (by omega) (by omega)
      refine W.eq (g2 := F0 m 460 ls [.int (nI u12), .int (nI 20)]) (by rw [eu12]) ?_
      refine lv_iadd hx hb dL_acts_460 ?_
      refine W.eq (g2 := F0 m 461 ls [.int (nI (20 + u12))]) (by rw [nI_add]) ?_
      refine lv_goto (tgt := 492) hx hb dL_acts_461 (by decide) ?_
      obtain ⟨vv, hvv⟩ : ∃ vv : Nat, vv = 20 + u12 := ⟨_, rfl⟩
      refine W.eq (g2 := F0 m 492 ls [.int (nI vv)]) (by rw [hvv]) ?_
      obtain ⟨hl1, hl2, hl3⟩ := set_ok (SI_rg hI) (i := u5) (v := vv) (by omega)
      obtain ⟨hd1, hd2, qhd⟩ := set_rg (SI_rg hI) (i := u5) (by omega)
      refine lv_istore (lv' := [(12, .int (nI vv)), (11, .int (nI u5)), (2, .int (nI ba)), (0, .ref (a 0)), (1, .int (nI c))]) hx hb dL_acts_492 hl (by decide) rfl (fun ls hl => ?_)
      refine lv_aload_n hx hb dL_acts_494 rfl (lv_at hl 3 rfl) ?_
      refine lv_iload hx hb dL_acts_495 (lv_at hl 1 rfl) ?_
      refine lk_count hB hP hD hS hW (v := (nI hd1)) ((co_set (OSt_X hW) (by omega)).trans qhd) gL_acts_X7_count hl.1 (Nat.le_of_ble_eq_true rfl) dL_acts_497 (fun H locs hP hD hS => ?_)
      refine lv_istore (lv' := [(13, .int (nI hd1)), (12, .int (nI vv)), (11, .int (nI u5)), (2, .int (nI ba)), (0, .ref (a 0)), (1, .int (nI c))]) hx hb dL_acts_500 hl (by decide) rfl (fun ls hl => ?_)
      refine lv_iload_n hx hb dL_acts_502 rfl (lv_at hl 5 rfl) ?_
      refine lv_bipush (v := (nI 20)) hx hb dL_acts_503 (by decide) ?_
      refine lv_ishr hx hb dL_acts_505 ?_
      refine lv_iconst (v := (nI 2)) hx hb dL_acts_506 (by decide) ?_
      refine lv_irem hx hb dL_acts_507 (by decide) ?_
      obtain ⟨u13, hu13, eu13⟩ := shr_rem (c := c) (d := 2) ((nI 20) &&& 31) 20 (by omega) (by decide) (by omega) (by omega)
      refine W.eq (g2 := F0 m 508 ls [.int (nI u13)]) (by rw [eu13]) ?_
      rcases (show u13 = 0 ∨ u13 = 1 by omega) with hbs | hbs
      · refine lv_if_ne (tgt := 539) hx hb dL_acts_508 (by decide) (fun q => absurd (show (nI u13) = (0 : Int32) from congrArg nI (show u13 = 0 by omega)) q) (fun _ => ?_)
        refine lv_aload_n hx hb dL_acts_511 rfl (lv_at hl 4 rfl) ?_
        refine lv_sipush (v := (nI 300)) hx hb dL_acts_512 (by decide) ?_
        refine lv_iload_n hx hb dL_acts_515 rfl (lv_at hl 5 rfl) ?_
        refine lv_bipush (v := (nI 8)) hx hb dL_acts_516 (by decide) ?_
        refine lv_ishr hx hb dL_acts_518 ?_
        refine lv_sipush (v := (nI 701)) hx hb dL_acts_519 (by decide) ?_
        refine lv_irem hx hb dL_acts_522 (by decide) ?_
        obtain ⟨u14, hu14, eu14⟩ := shr_rem (c := c) (d := 701) ((nI 8) &&& 31) 8 (by omega) (by decide) (by omega) (by omega)
        refine W.eq (g2 := F0 m 523 ls [.int (nI u14), .int (nI 300), .ref (a 0)]) (by rw [eu14]) ?_
        refine lv_iadd hx hb dL_acts_523 ?_
        refine W.eq (g2 := F0 m 524 ls [.int (nI (300 + u14)), .ref (a 0)]) (by rw [nI_add]) ?_
        have hI2 : SI t (sv 1 X (upd (X 1) 5 (nI (300 + u14)))) := SI_eng hI (rgEu_24 (SI_rg hI) (rgn (n := 300 + u14) (by omega) (by omega))) (by decide) (by decide)
        refine lk_battery hB hP hD hS hW (n := 300 + u14) (by omega) (SI_bo hI2) gL_acts_X7_battery hl.1 (Nat.le_of_ble_eq_true rfl) dL_acts_524 (fun T Z H locs hW hP hD hS => ?_)
        refine W.eq (g2 := F0 m 527 ls [.int (nI ba)]) (by rw [qba]) ?_
        refine lv_iload_n hx hb dL_acts_527 rfl (lv_at hl 3 rfl) ?_
        refine lv_icmp_ne (tgt := 535) hx hb dL_acts_528 (by decide) (fun q => absurd (show (nI ba) = (nI ba) from congrArg nI (show ba = ba by omega)) q) (fun _ => ?_)
        refine lv_iconst (v := (nI 1)) hx hb dL_acts_531 (by decide) ?_
        refine lv_goto (tgt := 568) hx hb dL_acts_532 (by decide) ?_
        exact jLc_ret hB hr hlocks hP hS dL_acts_568 ⟨0, _, by omega, hI2, hW⟩
      · refine lv_if_ne (tgt := 539) hx hb dL_acts_508 (by decide) (fun _ => ?_) (fun q => absurd q (show ¬ (nI u13) = (0 : Int32) from fun z => absurd ((nI_eq (a := u13) (b := 0) (by omega) (by omega)).mp z) (by omega)))
        refine lv_aload_n hx hb dL_acts_539 rfl (lv_at hl 4 rfl) ?_
        refine lv_iload hx hb dL_acts_540 (lv_at hl 2 rfl) ?_
        refine lv_iload hx hb dL_acts_542 (lv_at hl 1 rfl) ?_
        have hI2 : SI t (sv 2 X (upd (X 2) u5 (nI vv))) := SI_set hI hl3
        refine lk_set hB hP hD hS hW (i := u5) (n := vv) (by omega) hl1 hl2 (SI_bo hI2) gL_acts_X7_set hl.1 (Nat.le_of_ble_eq_true rfl) dL_acts_544 (fun T Z H locs hW hP hD hS => ?_)
        refine W.eq (g2 := F0 m 547 ls [.int (nI hd1)]) (by rw [qhd]) ?_
        refine lv_iload hx hb dL_acts_547 (lv_at hl 0 rfl) ?_
        refine lv_icmp_ne (tgt := 567) hx hb dL_acts_549 (by decide) (fun q => absurd (show (nI hd1) = (nI hd1) from congrArg nI (show hd1 = hd1 by omega)) q) (fun _ => ?_)
        refine lv_aload_n hx hb dL_acts_552 rfl (lv_at hl 4 rfl) ?_
        refine lv_iload hx hb dL_acts_553 (lv_at hl 2 rfl) ?_
        refine lk_count hB hP hD hS hW (v := (nI vv)) ((co_set (OSt_X hW) (by omega)).trans (by rw [sv_us, pk_us])) gL_acts_X7_count hl.1 (Nat.le_of_ble_eq_true rfl) dL_acts_555 (fun H locs hP hD hS => ?_)
        refine lv_iload hx hb dL_acts_558 (lv_at hl 1 rfl) ?_
        refine lv_icmp_ne (tgt := 567) hx hb dL_acts_560 (by decide) (fun q => absurd (show (nI vv) = (nI vv) from congrArg nI (show vv = vv by omega)) q) (fun _ => ?_)
        refine lv_iconst (v := (nI 1)) hx hb dL_acts_563 (by decide) ?_
        refine lv_goto (tgt := 568) hx hb dL_acts_564 (by decide) ?_
        exact jLc_ret hB hr hlocks hP hS dL_acts_568 ⟨0, _, by omega, hI2, hW⟩
    · refine lv_iload hx hb dL_acts_405 (lv_at hl 0 rfl) ?_
      refine lv_iconst (v := (nI 1)) hx hb dL_acts_407 (by decide) ?_
      refine lv_icmp_ne (tgt := 423) hx hb dL_acts_408 (by decide) (fun _ => ?_) (fun q => absurd q (show ¬ (nI u5) = (nI 1) from fun z => absurd ((nI_eq (a := u5) (b := 1) (by omega) (by omega)).mp z) (by omega)))
      refine lv_iload hx hb dL_acts_423 (lv_at hl 0 rfl) ?_
      refine lv_iconst (v := (nI 4)) hx hb dL_acts_425 (by decide) ?_
      refine lv_icmp_ne (tgt := 444) hx hb dL_acts_426 (by decide) (fun _ => ?_) (fun q => absurd q (show ¬ (nI u5) = (nI 4) from fun z => absurd ((nI_eq (a := u5) (b := 4) (by omega) (by omega)).mp z) (by omega)))
      refine lv_iload hx hb dL_acts_444 (lv_at hl 0 rfl) ?_
      refine lv_iconst (v := (nI 5)) hx hb dL_acts_446 (by decide) ?_
      refine lv_icmp_ne (tgt := 464) hx hb dL_acts_447 (by decide) (fun _ => ?_) (fun q => absurd q (show ¬ (nI u5) = (nI 5) from fun z => absurd ((nI_eq (a := u5) (b := 5) (by omega) (by omega)).mp z) (by omega)))
      refine lv_iload hx hb dL_acts_464 (lv_at hl 0 rfl) ?_
      refine lv_bipush (v := (nI 6)) hx hb dL_acts_466 (by decide) ?_
      refine lv_icmp_ne (tgt := 483) hx hb dL_acts_468 (by decide) (fun q => absurd (show (nI u5) = (nI 6) from congrArg nI (show u5 = 6 by omega)) q) (fun _ => ?_)
      refine lv_iconst (v := (nI 2)) hx hb dL_acts_471 (by decide) ?_
      refine lv_iload_n hx hb dL_acts_472 rfl (lv_at hl 3 rfl) ?_
      refine lv_bipush (v := (nI 8)) hx hb dL_acts_473 (by decide) ?_
      refine lv_ishr hx hb dL_acts_475 ?_
      refine lv_bipush (v := (nI 39)) hx hb dL_acts_476 (by decide) ?_
      refine lv_irem hx hb dL_acts_478 (by decide) ?_
      obtain ⟨u15, hu15, eu15⟩ := shr_rem (c := c) (d := 39) ((nI 8) &&& 31) 8 (by omega) (by decide) (by omega) (by omega)
      refine W.eq (g2 := F0 m 479 ls [.int (nI u15), .int (nI 2)]) (by rw [eu15]) ?_
      refine lv_iadd hx hb dL_acts_479 ?_
      refine W.eq (g2 := F0 m 480 ls [.int (nI (2 + u15))]) (by rw [nI_add]) ?_
      refine lv_goto (tgt := 492) hx hb dL_acts_480 (by decide) ?_
      obtain ⟨vv, hvv⟩ : ∃ vv : Nat, vv = 2 + u15 := ⟨_, rfl⟩
      refine W.eq (g2 := F0 m 492 ls [.int (nI vv)]) (by rw [hvv]) ?_
      obtain ⟨hl1, hl2, hl3⟩ := set_ok (SI_rg hI) (i := u5) (v := vv) (by omega)
      obtain ⟨hd1, hd2, qhd⟩ := set_rg (SI_rg hI) (i := u5) (by omega)
      refine lv_istore (lv' := [(12, .int (nI vv)), (11, .int (nI u5)), (2, .int (nI ba)), (0, .ref (a 0)), (1, .int (nI c))]) hx hb dL_acts_492 hl (by decide) rfl (fun ls hl => ?_)
      refine lv_aload_n hx hb dL_acts_494 rfl (lv_at hl 3 rfl) ?_
      refine lv_iload hx hb dL_acts_495 (lv_at hl 1 rfl) ?_
      refine lk_count hB hP hD hS hW (v := (nI hd1)) ((co_set (OSt_X hW) (by omega)).trans qhd) gL_acts_X7_count hl.1 (Nat.le_of_ble_eq_true rfl) dL_acts_497 (fun H locs hP hD hS => ?_)
      refine lv_istore (lv' := [(13, .int (nI hd1)), (12, .int (nI vv)), (11, .int (nI u5)), (2, .int (nI ba)), (0, .ref (a 0)), (1, .int (nI c))]) hx hb dL_acts_500 hl (by decide) rfl (fun ls hl => ?_)
      refine lv_iload_n hx hb dL_acts_502 rfl (lv_at hl 5 rfl) ?_
      refine lv_bipush (v := (nI 20)) hx hb dL_acts_503 (by decide) ?_
      refine lv_ishr hx hb dL_acts_505 ?_
      refine lv_iconst (v := (nI 2)) hx hb dL_acts_506 (by decide) ?_
      refine lv_irem hx hb dL_acts_507 (by decide) ?_
      obtain ⟨u16, hu16, eu16⟩ := shr_rem (c := c) (d := 2) ((nI 20) &&& 31) 20 (by omega) (by decide) (by omega) (by omega)
      refine W.eq (g2 := F0 m 508 ls [.int (nI u16)]) (by rw [eu16]) ?_
      rcases (show u16 = 0 ∨ u16 = 1 by omega) with hbs | hbs
      · refine lv_if_ne (tgt := 539) hx hb dL_acts_508 (by decide) (fun q => absurd (show (nI u16) = (0 : Int32) from congrArg nI (show u16 = 0 by omega)) q) (fun _ => ?_)
        refine lv_aload_n hx hb dL_acts_511 rfl (lv_at hl 4 rfl) ?_
        refine lv_sipush (v := (nI 300)) hx hb dL_acts_512 (by decide) ?_
        refine lv_iload_n hx hb dL_acts_515 rfl (lv_at hl 5 rfl) ?_
        refine lv_bipush (v := (nI 8)) hx hb dL_acts_516 (by decide) ?_
        refine lv_ishr hx hb dL_acts_518 ?_
        refine lv_sipush (v := (nI 701)) hx hb dL_acts_519 (by decide) ?_
        refine lv_irem hx hb dL_acts_522 (by decide) ?_
        obtain ⟨u17, hu17, eu17⟩ := shr_rem (c := c) (d := 701) ((nI 8) &&& 31) 8 (by omega) (by decide) (by omega) (by omega)
        refine W.eq (g2 := F0 m 523 ls [.int (nI u17), .int (nI 300), .ref (a 0)]) (by rw [eu17]) ?_
        refine lv_iadd hx hb dL_acts_523 ?_
        refine W.eq (g2 := F0 m 524 ls [.int (nI (300 + u17)), .ref (a 0)]) (by rw [nI_add]) ?_
        have hI2 : SI t (sv 1 X (upd (X 1) 5 (nI (300 + u17)))) := SI_eng hI (rgEu_24 (SI_rg hI) (rgn (n := 300 + u17) (by omega) (by omega))) (by decide) (by decide)
        refine lk_battery hB hP hD hS hW (n := 300 + u17) (by omega) (SI_bo hI2) gL_acts_X7_battery hl.1 (Nat.le_of_ble_eq_true rfl) dL_acts_524 (fun T Z H locs hW hP hD hS => ?_)
        refine W.eq (g2 := F0 m 527 ls [.int (nI ba)]) (by rw [qba]) ?_
        refine lv_iload_n hx hb dL_acts_527 rfl (lv_at hl 3 rfl) ?_
        refine lv_icmp_ne (tgt := 535) hx hb dL_acts_528 (by decide) (fun q => absurd (show (nI ba) = (nI ba) from congrArg nI (show ba = ba by omega)) q) (fun _ => ?_)
        refine lv_iconst (v := (nI 1)) hx hb dL_acts_531 (by decide) ?_
        refine lv_goto (tgt := 568) hx hb dL_acts_532 (by decide) ?_
        exact jLc_ret hB hr hlocks hP hS dL_acts_568 ⟨0, _, by omega, hI2, hW⟩
      · refine lv_if_ne (tgt := 539) hx hb dL_acts_508 (by decide) (fun _ => ?_) (fun q => absurd q (show ¬ (nI u16) = (0 : Int32) from fun z => absurd ((nI_eq (a := u16) (b := 0) (by omega) (by omega)).mp z) (by omega)))
        refine lv_aload_n hx hb dL_acts_539 rfl (lv_at hl 4 rfl) ?_
        refine lv_iload hx hb dL_acts_540 (lv_at hl 2 rfl) ?_
        refine lv_iload hx hb dL_acts_542 (lv_at hl 1 rfl) ?_
        have hI2 : SI t (sv 2 X (upd (X 2) u5 (nI vv))) := SI_set hI hl3
        refine lk_set hB hP hD hS hW (i := u5) (n := vv) (by omega) hl1 hl2 (SI_bo hI2) gL_acts_X7_set hl.1 (Nat.le_of_ble_eq_true rfl) dL_acts_544 (fun T Z H locs hW hP hD hS => ?_)
        refine W.eq (g2 := F0 m 547 ls [.int (nI hd1)]) (by rw [qhd]) ?_
        refine lv_iload hx hb dL_acts_547 (lv_at hl 0 rfl) ?_
        refine lv_icmp_ne (tgt := 567) hx hb dL_acts_549 (by decide) (fun q => absurd (show (nI hd1) = (nI hd1) from congrArg nI (show hd1 = hd1 by omega)) q) (fun _ => ?_)
        refine lv_aload_n hx hb dL_acts_552 rfl (lv_at hl 4 rfl) ?_
        refine lv_iload hx hb dL_acts_553 (lv_at hl 2 rfl) ?_
        refine lk_count hB hP hD hS hW (v := (nI vv)) ((co_set (OSt_X hW) (by omega)).trans (by rw [sv_us, pk_us])) gL_acts_X7_count hl.1 (Nat.le_of_ble_eq_true rfl) dL_acts_555 (fun H locs hP hD hS => ?_)
        refine lv_iload hx hb dL_acts_558 (lv_at hl 1 rfl) ?_
        refine lv_icmp_ne (tgt := 567) hx hb dL_acts_560 (by decide) (fun q => absurd (show (nI vv) = (nI vv) from congrArg nI (show vv = vv by omega)) q) (fun _ => ?_)
        refine lv_iconst (v := (nI 1)) hx hb dL_acts_563 (by decide) ?_
        refine lv_goto (tgt := 568) hx hb dL_acts_564 (by decide) ?_
        exact jLc_ret hB hr hlocks hP hS dL_acts_568 ⟨0, _, by omega, hI2, hW⟩
    · refine lv_iload hx hb dL_acts_405 (lv_at hl 0 rfl) ?_
      refine lv_iconst (v := (nI 1)) hx hb dL_acts_407 (by decide) ?_
      refine lv_icmp_ne (tgt := 423) hx hb dL_acts_408 (by decide) (fun _ => ?_) (fun q => absurd q (show ¬ (nI u5) = (nI 1) from fun z => absurd ((nI_eq (a := u5) (b := 1) (by omega) (by omega)).mp z) (by omega)))
      refine lv_iload hx hb dL_acts_423 (lv_at hl 0 rfl) ?_
      refine lv_iconst (v := (nI 4)) hx hb dL_acts_425 (by decide) ?_
      refine lv_icmp_ne (tgt := 444) hx hb dL_acts_426 (by decide) (fun _ => ?_) (fun q => absurd q (show ¬ (nI u5) = (nI 4) from fun z => absurd ((nI_eq (a := u5) (b := 4) (by omega) (by omega)).mp z) (by omega)))
      refine lv_iload hx hb dL_acts_444 (lv_at hl 0 rfl) ?_
      refine lv_iconst (v := (nI 5)) hx hb dL_acts_446 (by decide) ?_
      refine lv_icmp_ne (tgt := 464) hx hb dL_acts_447 (by decide) (fun _ => ?_) (fun q => absurd q (show ¬ (nI u5) = (nI 5) from fun z => absurd ((nI_eq (a := u5) (b := 5) (by omega) (by omega)).mp z) (by omega)))
      refine lv_iload hx hb dL_acts_464 (lv_at hl 0 rfl) ?_
      refine lv_bipush (v := (nI 6)) hx hb dL_acts_466 (by decide) ?_
      refine lv_icmp_ne (tgt := 483) hx hb dL_acts_468 (by decide) (fun _ => ?_) (fun q => absurd q (show ¬ (nI u5) = (nI 6) from fun z => absurd ((nI_eq (a := u5) (b := 6) (by omega) (by omega)).mp z) (by omega)))
      refine lv_iconst (v := (nI 1)) hx hb dL_acts_483 (by decide) ?_
      refine lv_iload_n hx hb dL_acts_484 rfl (lv_at hl 3 rfl) ?_
      refine lv_bipush (v := (nI 8)) hx hb dL_acts_485 (by decide) ?_
      refine lv_ishr hx hb dL_acts_487 ?_
      refine lv_bipush (v := (nI 40)) hx hb dL_acts_488 (by decide) ?_
      refine lv_irem hx hb dL_acts_490 (by decide) ?_
      obtain ⟨u18, hu18, eu18⟩ := shr_rem (c := c) (d := 40) ((nI 8) &&& 31) 8 (by omega) (by decide) (by omega) (by omega)
      refine W.eq (g2 := F0 m 491 ls [.int (nI u18), .int (nI 1)]) (by rw [eu18]) ?_
      refine lv_iadd hx hb dL_acts_491 ?_
      refine W.eq (g2 := F0 m 492 ls [.int (nI (1 + u18))]) (by rw [nI_add]) ?_
      obtain ⟨vv, hvv⟩ : ∃ vv : Nat, vv = 1 + u18 := ⟨_, rfl⟩
      refine W.eq (g2 := F0 m 492 ls [.int (nI vv)]) (by rw [hvv]) ?_
      obtain ⟨hl1, hl2, hl3⟩ := set_ok (SI_rg hI) (i := u5) (v := vv) (by omega)
      obtain ⟨hd1, hd2, qhd⟩ := set_rg (SI_rg hI) (i := u5) (by omega)
      refine lv_istore (lv' := [(12, .int (nI vv)), (11, .int (nI u5)), (2, .int (nI ba)), (0, .ref (a 0)), (1, .int (nI c))]) hx hb dL_acts_492 hl (by decide) rfl (fun ls hl => ?_)
      refine lv_aload_n hx hb dL_acts_494 rfl (lv_at hl 3 rfl) ?_
      refine lv_iload hx hb dL_acts_495 (lv_at hl 1 rfl) ?_
      refine lk_count hB hP hD hS hW (v := (nI hd1)) ((co_set (OSt_X hW) (by omega)).trans qhd) gL_acts_X7_count hl.1 (Nat.le_of_ble_eq_true rfl) dL_acts_497 (fun H locs hP hD hS => ?_)
      refine lv_istore (lv' := [(13, .int (nI hd1)), (12, .int (nI vv)), (11, .int (nI u5)), (2, .int (nI ba)), (0, .ref (a 0)), (1, .int (nI c))]) hx hb dL_acts_500 hl (by decide) rfl (fun ls hl => ?_)
      refine lv_iload_n hx hb dL_acts_502 rfl (lv_at hl 5 rfl) ?_
      refine lv_bipush (v := (nI 20)) hx hb dL_acts_503 (by decide) ?_
      refine lv_ishr hx hb dL_acts_505 ?_
      refine lv_iconst (v := (nI 2)) hx hb dL_acts_506 (by decide) ?_
      refine lv_irem hx hb dL_acts_507 (by decide) ?_
      obtain ⟨u19, hu19, eu19⟩ := shr_rem (c := c) (d := 2) ((nI 20) &&& 31) 20 (by omega) (by decide) (by omega) (by omega)
      refine W.eq (g2 := F0 m 508 ls [.int (nI u19)]) (by rw [eu19]) ?_
      rcases (show u19 = 0 ∨ u19 = 1 by omega) with hbs | hbs
      · refine lv_if_ne (tgt := 539) hx hb dL_acts_508 (by decide) (fun q => absurd (show (nI u19) = (0 : Int32) from congrArg nI (show u19 = 0 by omega)) q) (fun _ => ?_)
        refine lv_aload_n hx hb dL_acts_511 rfl (lv_at hl 4 rfl) ?_
        refine lv_sipush (v := (nI 300)) hx hb dL_acts_512 (by decide) ?_
        refine lv_iload_n hx hb dL_acts_515 rfl (lv_at hl 5 rfl) ?_
        refine lv_bipush (v := (nI 8)) hx hb dL_acts_516 (by decide) ?_
        refine lv_ishr hx hb dL_acts_518 ?_
        refine lv_sipush (v := (nI 701)) hx hb dL_acts_519 (by decide) ?_
        refine lv_irem hx hb dL_acts_522 (by decide) ?_
        obtain ⟨u20, hu20, eu20⟩ := shr_rem (c := c) (d := 701) ((nI 8) &&& 31) 8 (by omega) (by decide) (by omega) (by omega)
        refine W.eq (g2 := F0 m 523 ls [.int (nI u20), .int (nI 300), .ref (a 0)]) (by rw [eu20]) ?_
        refine lv_iadd hx hb dL_acts_523 ?_
        refine W.eq (g2 := F0 m 524 ls [.int (nI (300 + u20)), .ref (a 0)]) (by rw [nI_add]) ?_
        have hI2 : SI t (sv 1 X (upd (X 1) 5 (nI (300 + u20)))) := SI_eng hI (rgEu_24 (SI_rg hI) (rgn (n := 300 + u20) (by omega) (by omega))) (by decide) (by decide)
        refine lk_battery hB hP hD hS hW (n := 300 + u20) (by omega) (SI_bo hI2) gL_acts_X7_battery hl.1 (Nat.le_of_ble_eq_true rfl) dL_acts_524 (fun T Z H locs hW hP hD hS => ?_)
        refine W.eq (g2 := F0 m 527 ls [.int (nI ba)]) (by rw [qba]) ?_
        refine lv_iload_n hx hb dL_acts_527 rfl (lv_at hl 3 rfl) ?_
        refine lv_icmp_ne (tgt := 535) hx hb dL_acts_528 (by decide) (fun q => absurd (show (nI ba) = (nI ba) from congrArg nI (show ba = ba by omega)) q) (fun _ => ?_)
        refine lv_iconst (v := (nI 1)) hx hb dL_acts_531 (by decide) ?_
        refine lv_goto (tgt := 568) hx hb dL_acts_532 (by decide) ?_
        exact jLc_ret hB hr hlocks hP hS dL_acts_568 ⟨0, _, by omega, hI2, hW⟩
      · refine lv_if_ne (tgt := 539) hx hb dL_acts_508 (by decide) (fun _ => ?_) (fun q => absurd q (show ¬ (nI u19) = (0 : Int32) from fun z => absurd ((nI_eq (a := u19) (b := 0) (by omega) (by omega)).mp z) (by omega)))
        refine lv_aload_n hx hb dL_acts_539 rfl (lv_at hl 4 rfl) ?_
        refine lv_iload hx hb dL_acts_540 (lv_at hl 2 rfl) ?_
        refine lv_iload hx hb dL_acts_542 (lv_at hl 1 rfl) ?_
        have hI2 : SI t (sv 2 X (upd (X 2) u5 (nI vv))) := SI_set hI hl3
        refine lk_set hB hP hD hS hW (i := u5) (n := vv) (by omega) hl1 hl2 (SI_bo hI2) gL_acts_X7_set hl.1 (Nat.le_of_ble_eq_true rfl) dL_acts_544 (fun T Z H locs hW hP hD hS => ?_)
        refine W.eq (g2 := F0 m 547 ls [.int (nI hd1)]) (by rw [qhd]) ?_
        refine lv_iload hx hb dL_acts_547 (lv_at hl 0 rfl) ?_
        refine lv_icmp_ne (tgt := 567) hx hb dL_acts_549 (by decide) (fun q => absurd (show (nI hd1) = (nI hd1) from congrArg nI (show hd1 = hd1 by omega)) q) (fun _ => ?_)
        refine lv_aload_n hx hb dL_acts_552 rfl (lv_at hl 4 rfl) ?_
        refine lv_iload hx hb dL_acts_553 (lv_at hl 2 rfl) ?_
        refine lk_count hB hP hD hS hW (v := (nI vv)) ((co_set (OSt_X hW) (by omega)).trans (by rw [sv_us, pk_us])) gL_acts_X7_count hl.1 (Nat.le_of_ble_eq_true rfl) dL_acts_555 (fun H locs hP hD hS => ?_)
        refine lv_iload hx hb dL_acts_558 (lv_at hl 1 rfl) ?_
        refine lv_icmp_ne (tgt := 567) hx hb dL_acts_560 (by decide) (fun q => absurd (show (nI vv) = (nI vv) from congrArg nI (show vv = vv by omega)) q) (fun _ => ?_)
        refine lv_iconst (v := (nI 1)) hx hb dL_acts_563 (by decide) ?_
        refine lv_goto (tgt := 568) hx hb dL_acts_564 (by decide) ?_
        exact jLc_ret hB hr hlocks hP hS dL_acts_568 ⟨0, _, by omega, hI2, hW⟩
  · refine lv_tableOut (tgt := 569) hx hb dL_acts_11 (Or.inr (by rcases (show u1 = 7 ∨ u1 = 8 ∨ u1 = 9 by omega) with h | h | h <;> rw [h] <;> decide)) (by decide) ?_
    refine lv_iconst (v := (nI 1)) hx hb dL_acts_569 (by decide) ?_
    refine lv_iload_n hx hb dL_acts_570 rfl (lv_at hl 2 rfl) ?_
    refine lv_iconst (v := (nI 4)) hx hb dL_acts_571 (by decide) ?_
    refine lv_ishr hx hb dL_acts_572 ?_
    refine lv_bipush (v := (nI 40)) hx hb dL_acts_573 (by decide) ?_
    refine lv_irem hx hb dL_acts_575 (by decide) ?_
    obtain ⟨u21, hu21, eu21⟩ := shr_rem (c := c) (d := 40) ((nI 4) &&& 31) 4 (by omega) (by decide) (by omega) (by omega)
    refine W.eq (g2 := F0 m 576 ls [.int (nI u21), .int (nI 1)]) (by rw [eu21]) ?_
    refine lv_iadd hx hb dL_acts_576 ?_
    refine W.eq (g2 := F0 m 577 ls [.int (nI (1 + u21))]) (by rw [nI_add]) ?_
    refine lv_istore (lv' := [(14, .int (nI (1 + u21))), (2, .int (nI ba)), (0, .ref (a 0)), (1, .int (nI c))]) hx hb dL_acts_577 hl (by decide) rfl (fun ls hl => ?_)
    refine lv_aload_n hx hb dL_acts_579 rfl (lv_at hl 2 rfl) ?_
    refine lv_bipush (v := (nI 7)) hx hb dL_acts_580 (by decide) ?_
    refine lk_count hB hP hD hS hW (v := (nI t)) ((co_v7 (OSt_X hW)).trans qt) gL_acts_X7_count hl.1 (Nat.le_of_ble_eq_true rfl) dL_acts_582 (fun H locs hP hD hS => ?_)
    refine lv_istore (lv' := [(15, .int (nI t)), (14, .int (nI (1 + u21))), (2, .int (nI ba)), (0, .ref (a 0)), (1, .int (nI c))]) hx hb dL_acts_585 hl (by decide) rfl (fun ls hl => ?_)
    refine lv_aload_n hx hb dL_acts_587 rfl (lv_at hl 3 rfl) ?_
    refine lv_iload hx hb dL_acts_588 (lv_at hl 1 rfl) ?_
    refine lv_iconst (v := (nI 0)) hx hb dL_acts_590 (by decide) ?_
    have hI2 : SI (t + (1 + u21)) (pT (1 + u21) X) := SI_pT (1 + u21) t X hI (by omega)
    obtain ⟨spb, heb, stb, pob, bab, skb, crb, flb, unb, gb, hotb, runb, lostb, e0b, e1b, e2b, e3b, kb, hbdb, qspb, qheb, qstb, qpob, qbab, qskb, qcrb, qflb, qunb, qgb, qhotb, qrunb, qnwb, qlostb, qtb, qkb, qe0b, qe1b, qe2b, qe3b, qlgb, qc0b, qc1b, qc2b, qc3b⟩ := SI_all hI2
    refine lk_if hB hP hD hS hW (BI_of hI) (n := 1 + u21) (w := 0) (v := nI spb) (by omega) (by omega) (by omega) ((if_r (OSt_X hW) (SI_rg hI) (n := 1 + u21) (by omega) (by omega)).1.trans qspb) gL_acts_X7_ifTicked hl.1 (Nat.le_of_ble_eq_true rfl) dL_acts_591 (fun Z H locs hW hP hD hS => ?_)
    refine lv_istore (lv' := [(16, .int (nI spb)), (15, .int (nI t)), (14, .int (nI (1 + u21))), (2, .int (nI ba)), (0, .ref (a 0)), (1, .int (nI c))]) hx hb dL_acts_594 hl (by decide) rfl (fun ls hl => ?_)
    refine lv_aload_n hx hb dL_acts_596 rfl (lv_at hl 4 rfl) ?_
    refine lv_iload hx hb dL_acts_597 (lv_at hl 2 rfl) ?_
    refine lk_tick hB hP hD hS hW (n := 1 + u21) (by omega) (by omega) (hrm_ok qt (by omega)) (SI_bo hI2) gL_acts_X7_tick hl.1 (Nat.le_of_ble_eq_true rfl) dL_acts_599 (fun T Z H locs hW hP hD hS => ?_)
    refine W.eq (g2 := F0 m 602 ls [.int (nI spb)]) (by rw [qspb]) ?_
    refine lv_iload hx hb dL_acts_602 (lv_at hl 0 rfl) ?_
    refine lv_icmp_ne (tgt := 625) hx hb dL_acts_604 (by decide) (fun q => absurd (show (nI spb) = (nI spb) from congrArg nI (show spb = spb by omega)) q) (fun _ => ?_)
    refine lv_aload_n hx hb dL_acts_607 rfl (lv_at hl 4 rfl) ?_
    refine lv_bipush (v := (nI 7)) hx hb dL_acts_608 (by decide) ?_
    refine lk_count hB hP hD hS hW (v := (nI (t + (1 + u21)))) ((co_v7 (OSt_X hW)).trans qtb) gL_acts_X7_count hl.1 (Nat.le_of_ble_eq_true rfl) dL_acts_610 (fun H locs hP hD hS => ?_)
    refine lv_iload hx hb dL_acts_613 (lv_at hl 1 rfl) ?_
    refine lv_iload hx hb dL_acts_615 (lv_at hl 2 rfl) ?_
    refine lv_iadd hx hb dL_acts_617 ?_
    refine W.eq (g2 := F0 m 618 ls [.int (nI (t + (1 + u21))), .int (nI (t + (1 + u21)))]) (by rw [nI_add]) ?_
    refine lv_icmp_ne (tgt := 625) hx hb dL_acts_618 (by decide) (fun q => absurd (show (nI (t + (1 + u21))) = (nI (t + (1 + u21))) from congrArg nI (show t + (1 + u21) = t + (1 + u21) by omega)) q) (fun _ => ?_)
    refine lv_iconst (v := (nI 1)) hx hb dL_acts_621 (by decide) ?_
    refine lv_goto (tgt := 626) hx hb dL_acts_622 (by decide) ?_
    exact jLc_ret hB hr hlocks hP hS dL_acts_626 ⟨1 + u21, _, by omega, hI2, hW⟩
