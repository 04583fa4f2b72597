/-! numbers keep to their bounds -/
set_option maxHeartbeats 4000000 in
set_option maxRecDepth 20000 in
theorem ct_L_isEngine (l : Launch) (D : va_G) (y : Nat → ClassId) (a : Nat → Nat) (bb : Nat → Nat → Nat) (T : Nat → Nat → Int32) (Z : Nat → Nat → Nat → Int32) (X : Nat → Nat → Int32) (G0 G1 : Int32) (S0 S1 : Nat → Nat → Int32) (q t : Nat) (hI : SI t X) (ht : t ≤ 3000) (hW : OSt q T Z X G0 G1 S0 S1) : jLc l D y yL_isEngine wsL_isEngine rmL [.ref (a 0)] a bb T Z (fun T' Z' => OSt q T' Z' X G0 G1 S0 S1) := by
  refine jLc_of (cc := cL_isEngine) (maxL := 4) (by decide) rfl rfl (Nat.le_of_ble_eq_true rfl) ?_
  intro p e s m below meth c A ls hB hr hlocks hP hD hS hl
  have hx := hB.1
  have hb := hB.2.1
  have hl : lv_has ls 4 [(0, .ref (a 0))] := hl
  obtain ⟨sp, he, st, po, ba, sk, cr, fl, un, g, hot, run, lost, e0, e1, e2, e3, k, hbd, qsp, qhe, qst, qpo, qba, qsk, qcr, qfl, qun, qg, qhot, qrun, qnw, qlost, qt, qk, qe0, qe1, qe2, qe3, qlg, qc0, qc1, qc2, qc3⟩ := SI_all hI
  obtain ⟨ru, hru, qru, hri⟩ := runs_val qsp qfl (by omega) (by omega)
  rcases (show fl = 0 ∨ fl = 1 by omega) with hfl | hfl
  · refine lv_aload_n hx hb dL_isEngine_0 rfl (lv_at hl 0 rfl) ?_
    refine lv_bipush (v := (nI 6)) hx hb dL_isEngine_1 (by decide) ?_
    refine lk_engine hB hP hD hS hW (v := (nI fl)) ((en_v6 (OSt_X hW) (n01 qfl (by omega))).trans qfl) gL_isEngine_X7_engine hl.1 (Nat.le_of_ble_eq_true rfl) dL_isEngine_3 (fun H locs hP hD hS => ?_)
    refine lv_iconst (v := (nI 1)) hx hb dL_isEngine_6 (by decide) ?_
    refine lv_icmp_ne (tgt := 14) hx hb dL_isEngine_7 (by decide) (fun _ => ?_) (fun q => absurd q (show ¬ (nI fl) = (nI 1) from fun z => absurd ((nI_eq (a := fl) (b := 1) (by omega) (by omega)).mp z) (by omega)))
    refine lv_iconst (v := (nI 0)) hx hb dL_isEngine_14 (by decide) ?_
    refine lv_istore_n (lv' := [(1, .int (nI 0)), (0, .ref (a 0))]) hx hb dL_isEngine_15 rfl hl (by decide) rfl (fun ls hl => ?_)
    refine lv_aload_n hx hb dL_isEngine_16 rfl (lv_at hl 1 rfl) ?_
    refine lv_iconst (v := (nI 0)) hx hb dL_isEngine_17 (by decide) ?_
    refine lk_engine hB hP hD hS hW (v := (nI sp)) ((en_v0 (OSt_X hW)).trans qsp) gL_isEngine_X7_engine hl.1 (Nat.le_of_ble_eq_true rfl) dL_isEngine_18 (fun H locs hP hD hS => ?_)
    refine lv_if_lt (tgt := 126) hx hb dL_isEngine_21 (by decide) (fun q => absurd q (show ¬ (nI sp) < (0 : Int32) from nI_nlt (b := 0) (a := sp) (by omega) (by omega))) (fun _ => ?_)
    refine lv_aload_n hx hb dL_isEngine_24 rfl (lv_at hl 1 rfl) ?_
    refine lv_iconst (v := (nI 0)) hx hb dL_isEngine_25 (by decide) ?_
    refine lk_engine hB hP hD hS hW (v := (nI sp)) ((en_v0 (OSt_X hW)).trans qsp) gL_isEngine_X7_engine hl.1 (Nat.le_of_ble_eq_true rfl) dL_isEngine_26 (fun H locs hP hD hS => ?_)
    refine lv_sipush (v := (nI 1100)) hx hb dL_isEngine_29 (by decide) ?_
    refine lv_icmp_gt (tgt := 126) hx hb dL_isEngine_32 (by decide) (fun q => absurd q (show ¬ (nI 1100) < (nI sp) from nI_nlt (b := sp) (a := 1100) (by omega) (by omega))) (fun _ => ?_)
    refine lv_aload_n hx hb dL_isEngine_35 rfl (lv_at hl 1 rfl) ?_
    refine lv_iconst (v := (nI 1)) hx hb dL_isEngine_36 (by decide) ?_
    refine lk_engine hB hP hD hS hW (v := (nI he)) ((en_v1 (OSt_X hW)).trans qhe) gL_isEngine_X7_engine hl.1 (Nat.le_of_ble_eq_true rfl) dL_isEngine_37 (fun H locs hP hD hS => ?_)
    refine lv_if_lt (tgt := 126) hx hb dL_isEngine_40 (by decide) (fun q => absurd q (show ¬ (nI he) < (0 : Int32) from nI_nlt (b := 0) (a := he) (by omega) (by omega))) (fun _ => ?_)
    refine lv_aload_n hx hb dL_isEngine_43 rfl (lv_at hl 1 rfl) ?_
    refine lv_iconst (v := (nI 1)) hx hb dL_isEngine_44 (by decide) ?_
    refine lk_engine hB hP hD hS hW (v := (nI he)) ((en_v1 (OSt_X hW)).trans qhe) gL_isEngine_X7_engine hl.1 (Nat.le_of_ble_eq_true rfl) dL_isEngine_45 (fun H locs hP hD hS => ?_)
    refine lv_sipush (v := (nI 2000)) hx hb dL_isEngine_48 (by decide) ?_
    refine lv_icmp_gt (tgt := 126) hx hb dL_isEngine_51 (by decide) (fun q => absurd q (show ¬ (nI 2000) < (nI he) from nI_nlt (b := he) (a := 2000) (by omega) (by omega))) (fun _ => ?_)
    refine lv_aload_n hx hb dL_isEngine_54 rfl (lv_at hl 1 rfl) ?_
    refine lv_iconst (v := (nI 2)) hx hb dL_isEngine_55 (by decide) ?_
    refine lk_engine hB hP hD hS hW (v := (nI st)) ((en_v2 (OSt_X hW)).trans qst) gL_isEngine_X7_engine hl.1 (Nat.le_of_ble_eq_true rfl) dL_isEngine_56 (fun H locs hP hD hS => ?_)
    refine lv_if_lt (tgt := 126) hx hb dL_isEngine_59 (by decide) (fun q => absurd q (show ¬ (nI st) < (0 : Int32) from nI_nlt (b := 0) (a := st) (by omega) (by omega))) (fun _ => ?_)
    refine lv_aload_n hx hb dL_isEngine_62 rfl (lv_at hl 1 rfl) ?_
    refine lv_iconst (v := (nI 2)) hx hb dL_isEngine_63 (by decide) ?_
    refine lk_engine hB hP hD hS hW (v := (nI st)) ((en_v2 (OSt_X hW)).trans qst) gL_isEngine_X7_engine hl.1 (Nat.le_of_ble_eq_true rfl) dL_isEngine_64 (fun H locs hP hD hS => ?_)
    refine lv_bipush (v := (nI 10)) hx hb dL_isEngine_67 (by decide) ?_
    refine lv_icmp_gt (tgt := 126) hx hb dL_isEngine_69 (by decide) (fun q => absurd q (show ¬ (nI 10) < (nI st) from nI_nlt (b := st) (a := 10) (by omega) (by omega))) (fun _ => ?_)
    refine lv_aload_n hx hb dL_isEngine_72 rfl (lv_at hl 1 rfl) ?_
    refine lv_iconst (v := (nI 3)) hx hb dL_isEngine_73 (by decide) ?_
    refine lk_engine hB hP hD hS hW (v := (nI po)) ((en_v3 (OSt_X hW)).trans qpo) gL_isEngine_X7_engine hl.1 (Nat.le_of_ble_eq_true rfl) dL_isEngine_74 (fun H locs hP hD hS => ?_)
    refine lv_if_lt (tgt := 126) hx hb dL_isEngine_77 (by decide) (fun q => absurd q (show ¬ (nI po) < (0 : Int32) from nI_nlt (b := 0) (a := po) (by omega) (by omega))) (fun _ => ?_)
    refine lv_aload_n hx hb dL_isEngine_80 rfl (lv_at hl 1 rfl) ?_
    refine lv_iconst (v := (nI 3)) hx hb dL_isEngine_81 (by decide) ?_
    refine lk_engine hB hP hD hS hW (v := (nI po)) ((en_v3 (OSt_X hW)).trans qpo) gL_isEngine_X7_engine hl.1 (Nat.le_of_ble_eq_true rfl) dL_isEngine_82 (fun H locs hP hD hS => ?_)
    refine lv_bipush (v := (nI 100)) hx hb dL_isEngine_85 (by decide) ?_
    refine lv_icmp_gt (tgt := 126) hx hb dL_isEngine_87 (by decide) (fun q => absurd q (show ¬ (nI 100) < (nI po) from nI_nlt (b := po) (a := 100) (by omega) (by omega))) (fun _ => ?_)
    refine lv_aload_n hx hb dL_isEngine_90 rfl (lv_at hl 1 rfl) ?_
    refine lv_bipush (v := (nI 7)) hx hb dL_isEngine_91 (by decide) ?_
    refine lk_engine hB hP hD hS hW (v := (nI ba)) ((en_v7 (OSt_X hW)).trans qba) gL_isEngine_X7_engine hl.1 (Nat.le_of_ble_eq_true rfl) dL_isEngine_93 (fun H locs hP hD hS => ?_)
    refine lv_if_lt (tgt := 126) hx hb dL_isEngine_96 (by decide) (fun q => absurd q (show ¬ (nI ba) < (0 : Int32) from nI_nlt (b := 0) (a := ba) (by omega) (by omega))) (fun _ => ?_)
    refine lv_aload_n hx hb dL_isEngine_99 rfl (lv_at hl 1 rfl) ?_
    refine lv_bipush (v := (nI 7)) hx hb dL_isEngine_100 (by decide) ?_
    refine lk_engine hB hP hD hS hW (v := (nI ba)) ((en_v7 (OSt_X hW)).trans qba) gL_isEngine_X7_engine hl.1 (Nat.le_of_ble_eq_true rfl) dL_isEngine_102 (fun H locs hP hD hS => ?_)
    refine lv_sipush (v := (nI 1000)) hx hb dL_isEngine_105 (by decide) ?_
    refine lv_icmp_gt (tgt := 126) hx hb dL_isEngine_108 (by decide) (fun q => absurd q (show ¬ (nI 1000) < (nI ba) from nI_nlt (b := ba) (a := 1000) (by omega) (by omega))) (fun _ => ?_)
    refine lv_aload_n hx hb dL_isEngine_111 rfl (lv_at hl 1 rfl) ?_
    refine lv_bipush (v := (nI 11)) hx hb dL_isEngine_112 (by decide) ?_
    refine lk_engine hB hP hD hS hW (v := (-2)) (en_v11 _) gL_isEngine_X7_engine hl.1 (Nat.le_of_ble_eq_true rfl) dL_isEngine_114 (fun H locs hP hD hS => ?_)
    refine lv_bipush (v := (-2)) hx hb dL_isEngine_117 (by decide) ?_
    refine lv_icmp_ne (tgt := 126) hx hb dL_isEngine_119 (by decide) (fun q => absurd rfl q) (fun _ => ?_)
    refine lv_iconst (v := (nI 1)) hx hb dL_isEngine_122 (by decide) ?_
    refine lv_goto (tgt := 127) hx hb dL_isEngine_123 (by decide) ?_
    refine lv_istore_n (lv' := [(2, .int (nI 1)), (1, .int (nI 0)), (0, .ref (a 0))]) hx hb dL_isEngine_127 rfl hl (by decide) rfl (fun ls hl => ?_)
    refine lv_aload_n hx hb dL_isEngine_128 rfl (lv_at hl 2 rfl) ?_
    refine lv_bipush (v := (nI 8)) hx hb dL_isEngine_129 (by decide) ?_
    refine lk_count hB hP hD hS hW (v := (nI e0)) ((co_v8 (OSt_X hW)).trans qe0) gL_isEngine_X7_count hl.1 (Nat.le_of_ble_eq_true rfl) dL_isEngine_131 (fun H locs hP hD hS => ?_)
    refine lv_aload_n hx hb dL_isEngine_134 rfl (lv_at hl 2 rfl) ?_
    refine lv_bipush (v := (nI 9)) hx hb dL_isEngine_135 (by decide) ?_
    refine lk_count hB hP hD hS hW (v := (nI e1)) ((co_v9 (OSt_X hW)).trans qe1) gL_isEngine_X7_count hl.1 (Nat.le_of_ble_eq_true rfl) dL_isEngine_137 (fun H locs hP hD hS => ?_)
    refine lv_iadd hx hb dL_isEngine_140 ?_
    refine W.eq (g2 := F0 m 141 ls [.int (nI (e0 + e1))]) (by rw [nI_add]) ?_
    refine lv_aload_n hx hb dL_isEngine_141 rfl (lv_at hl 2 rfl) ?_
    refine lv_bipush (v := (nI 10)) hx hb dL_isEngine_142 (by decide) ?_
    refine lk_count hB hP hD hS hW (v := (nI e2)) ((co_v10 (OSt_X hW)).trans qe2) gL_isEngine_X7_count hl.1 (Nat.le_of_ble_eq_true rfl) dL_isEngine_144 (fun H locs hP hD hS => ?_)
    refine lv_iadd hx hb dL_isEngine_147 ?_
    refine W.eq (g2 := F0 m 148 ls [.int (nI (e0 + e1 + e2))]) (by rw [nI_add]) ?_
    refine lv_aload_n hx hb dL_isEngine_148 rfl (lv_at hl 2 rfl) ?_
    refine lv_bipush (v := (nI 11)) hx hb dL_isEngine_149 (by decide) ?_
    refine lk_count hB hP hD hS hW (v := (nI e3)) ((co_v11 (OSt_X hW)).trans qe3) gL_isEngine_X7_count hl.1 (Nat.le_of_ble_eq_true rfl) dL_isEngine_151 (fun H locs hP hD hS => ?_)
    refine lv_iadd hx hb dL_isEngine_154 ?_
    refine W.eq (g2 := F0 m 155 ls [.int (nI (e0 + e1 + e2 + e3))]) (by rw [nI_add]) ?_
    refine lv_istore_n (lv' := [(3, .int (nI (e0 + e1 + e2 + e3))), (2, .int (nI 1)), (1, .int (nI 0)), (0, .ref (a 0))]) hx hb dL_isEngine_155 rfl hl (by decide) rfl (fun ls hl => ?_)
    refine lv_iload_n hx hb dL_isEngine_156 rfl (lv_at hl 1 rfl) ?_
    refine lv_if_eq (tgt := 281) hx hb dL_isEngine_157 (by decide) (fun q => absurd q (show ¬ (nI 1) = (0 : Int32) from fun z => absurd ((nI_eq (a := 1) (b := 0) (by omega) (by omega)).mp z) (by omega))) (fun _ => ?_)
    refine lv_aload_n hx hb dL_isEngine_160 rfl (lv_at hl 3 rfl) ?_
    refine lv_bipush (v := (nI 8)) hx hb dL_isEngine_161 (by decide) ?_
    refine lk_engine hB hP hD hS hW (v := (nI ru)) ((en_v8 (OSt_X hW)).trans qru) gL_isEngine_X7_engine hl.1 (Nat.le_of_ble_eq_true rfl) dL_isEngine_163 (fun H locs hP hD hS => ?_)
    refine lv_iload_n hx hb dL_isEngine_166 rfl (lv_at hl 2 rfl) ?_
    refine lv_if_eq (tgt := 185) hx hb dL_isEngine_167 (by decide) (fun _ => ?_) (fun q => absurd (show (nI 0) = (0 : Int32) from congrArg nI (show 0 = 0 by omega)) q)
    refine lv_iconst (v := (nI 0)) hx hb dL_isEngine_185 (by decide) ?_
    refine lv_icmp_ne (tgt := 281) hx hb dL_isEngine_186 (by decide) (fun q => absurd (show (nI ru) = (nI 0) from congrArg nI (show ru = 0 by omega)) q) (fun _ => ?_)
    refine lv_aload_n hx hb dL_isEngine_189 rfl (lv_at hl 3 rfl) ?_
    refine lv_iconst (v := (nI 1)) hx hb dL_isEngine_190 (by decide) ?_
    refine lk_engine hB hP hD hS hW (v := (nI he)) ((en_v1 (OSt_X hW)).trans qhe) gL_isEngine_X7_engine hl.1 (Nat.le_of_ble_eq_true rfl) dL_isEngine_191 (fun H locs hP hD hS => ?_)
    refine lv_aload_n hx hb dL_isEngine_194 rfl (lv_at hl 3 rfl) ?_
    refine lv_bipush (v := (nI 16)) hx hb dL_isEngine_195 (by decide) ?_
    refine lk_count hB hP hD hS hW (v := (nI g)) ((co_v16 (OSt_X hW)).trans qg) gL_isEngine_X7_count hl.1 (Nat.le_of_ble_eq_true rfl) dL_isEngine_197 (fun H locs hP hD hS => ?_)
    refine lv_icmp_gt (tgt := 281) hx hb dL_isEngine_200 (by decide) (fun q => absurd q (show ¬ (nI g) < (nI he) from nI_nlt (b := he) (a := g) (by omega) (by omega))) (fun _ => ?_)
    refine lv_aload_n hx hb dL_isEngine_203 rfl (lv_at hl 3 rfl) ?_
    refine lv_bipush (v := (nI 14)) hx hb dL_isEngine_204 (by decide) ?_
    refine lk_count hB hP hD hS hW (v := (nI (lost + fl))) ((co_v14 (OSt_X hW)).trans qnw) gL_isEngine_X7_count hl.1 (Nat.le_of_ble_eq_true rfl) dL_isEngine_206 (fun H locs hP hD hS => ?_)
    refine lv_aload_n hx hb dL_isEngine_209 rfl (lv_at hl 3 rfl) ?_
    refine lv_bipush (v := (nI 15)) hx hb dL_isEngine_210 (by decide) ?_
    refine lk_count hB hP hD hS hW (v := (nI lost)) ((co_v15 (OSt_X hW)).trans qlost) gL_isEngine_X7_count hl.1 (Nat.le_of_ble_eq_true rfl) dL_isEngine_212 (fun H locs hP hD hS => ?_)
    refine lv_iload_n hx hb dL_isEngine_215 rfl (lv_at hl 2 rfl) ?_
    refine lv_if_eq (tgt := 223) hx hb dL_isEngine_216 (by decide) (fun _ => ?_) (fun q => absurd (show (nI 0) = (0 : Int32) from congrArg nI (show 0 = 0 by omega)) q)
    refine lv_iconst (v := (nI 0)) hx hb dL_isEngine_223 (by decide) ?_
    refine lv_iadd hx hb dL_isEngine_224 ?_
    refine W.eq (g2 := F0 m 225 ls [.int (nI (lost + 0)), .int (nI (lost + fl))]) (by rw [nI_add]) ?_
    refine lv_icmp_ne (tgt := 281) hx hb dL_isEngine_225 (by decide) (fun q => absurd (show (nI (lost + fl)) = (nI (lost + 0)) from congrArg nI (show lost + fl = lost + 0 by omega)) q) (fun _ => ?_)
    refine lv_aload_n hx hb dL_isEngine_228 rfl (lv_at hl 3 rfl) ?_
    refine lv_bipush (v := (nI 9)) hx hb dL_isEngine_229 (by decide) ?_
    rcases (show un = 0 ∨ un = 1 by omega) with hun | hun
    · refine lk_engine hB hP hD hS hW (v := (nI un)) ((en_v9 (OSt_X hW) (n01 qun (by omega))).trans qun) gL_isEngine_X7_engine hl.1 (Nat.le_of_ble_eq_true rfl) dL_isEngine_231 (fun H locs hP hD hS => ?_)
      refine lv_iconst (v := (nI 1)) hx hb dL_isEngine_234 (by decide) ?_
      refine lv_icmp_eq (tgt := 247) hx hb dL_isEngine_235 (by decide) (fun q => absurd q (show ¬ (nI un) = (nI 1) from fun z => absurd ((nI_eq (a := un) (b := 1) (by omega) (by omega)).mp z) (by omega))) (fun _ => ?_)
      refine lv_aload_n hx hb dL_isEngine_238 rfl (lv_at hl 3 rfl) ?_
      refine lv_bipush (v := (nI 10)) hx hb dL_isEngine_239 (by decide) ?_
      refine lk_engine hB hP hD hS hW (v := (nI 0)) (en_v10 (OSt_X hW) (qun.trans (congrArg nI (show un = 0 by omega)))) gL_isEngine_X7_engine hl.1 (Nat.le_of_ble_eq_true rfl) dL_isEngine_241 (fun H locs hP hD hS => ?_)
      refine lv_if_ne (tgt := 281) hx hb dL_isEngine_244 (by decide) (fun q => absurd (show (nI 0) = (0 : Int32) from congrArg nI (show 0 = 0 by omega)) q) (fun _ => ?_)
      refine lv_aload_n hx hb dL_isEngine_247 rfl (lv_at hl 3 rfl) ?_
      refine lv_bipush (v := (nI 8)) hx hb dL_isEngine_248 (by decide) ?_
      refine lk_engine hB hP hD hS hW (v := (nI ru)) ((en_v8 (OSt_X hW)).trans qru) gL_isEngine_X7_engine hl.1 (Nat.le_of_ble_eq_true rfl) dL_isEngine_250 (fun H locs hP hD hS => ?_)
      refine lv_if_eq (tgt := 277) hx hb dL_isEngine_253 (by decide) (fun _ => ?_) (fun q => absurd (show (nI ru) = (0 : Int32) from congrArg nI (show ru = 0 by omega)) q)
      refine lv_iconst (v := (nI 1)) hx hb dL_isEngine_277 (by decide) ?_
      refine lv_goto (tgt := 282) hx hb dL_isEngine_278 (by decide) ?_
      refine lv_istore_n (lv' := [(2, .int (nI 1)), (3, .int (nI (e0 + e1 + e2 + e3))), (1, .int (nI 0)), (0, .ref (a 0))]) hx hb dL_isEngine_282 rfl hl (by decide) rfl (fun ls hl => ?_)
      refine lv_iload_n hx hb dL_isEngine_283 rfl (lv_at hl 0 rfl) ?_
      refine lv_if_eq (tgt := 372) hx hb dL_isEngine_284 (by decide) (fun q => absurd q (show ¬ (nI 1) = (0 : Int32) from fun z => absurd ((nI_eq (a := 1) (b := 0) (by omega) (by omega)).mp z) (by omega))) (fun _ => ?_)
      refine lv_aload_n hx hb dL_isEngine_287 rfl (lv_at hl 3 rfl) ?_
      refine lv_bipush (v := (nI 12)) hx hb dL_isEngine_288 (by decide) ?_
      refine lk_count hB hP hD hS hW (v := (nI hot)) ((co_v12 (OSt_X hW)).trans qhot) gL_isEngine_X7_count hl.1 (Nat.le_of_ble_eq_true rfl) dL_isEngine_290 (fun H locs hP hD hS => ?_)
      refine lv_aload_n hx hb dL_isEngine_293 rfl (lv_at hl 3 rfl) ?_
      refine lv_bipush (v := (nI 7)) hx hb dL_isEngine_294 (by decide) ?_
      refine lk_count hB hP hD hS hW (v := (nI t)) ((co_v7 (OSt_X hW)).trans qt) gL_isEngine_X7_count hl.1 (Nat.le_of_ble_eq_true rfl) dL_isEngine_296 (fun H locs hP hD hS => ?_)
      refine lv_icmp_gt (tgt := 372) hx hb dL_isEngine_299 (by decide) (fun q => absurd q (show ¬ (nI t) < (nI hot) from nI_nlt (b := hot) (a := t) (by omega) (by omega))) (fun _ => ?_)
      refine lv_aload_n hx hb dL_isEngine_302 rfl (lv_at hl 3 rfl) ?_
      refine lv_bipush (v := (nI 13)) hx hb dL_isEngine_303 (by decide) ?_
      refine lk_count hB hP hD hS hW (v := (nI run)) ((co_v13 (OSt_X hW)).trans qrun) gL_isEngine_X7_count hl.1 (Nat.le_of_ble_eq_true rfl) dL_isEngine_305 (fun H locs hP hD hS => ?_)
      refine lv_aload_n hx hb dL_isEngine_308 rfl (lv_at hl 3 rfl) ?_
      refine lv_bipush (v := (nI 7)) hx hb dL_isEngine_309 (by decide) ?_
      refine lk_count hB hP hD hS hW (v := (nI t)) ((co_v7 (OSt_X hW)).trans qt) gL_isEngine_X7_count hl.1 (Nat.le_of_ble_eq_true rfl) dL_isEngine_311 (fun H locs hP hD hS => ?_)
      refine lv_icmp_gt (tgt := 372) hx hb dL_isEngine_314 (by decide) (fun q => absurd q (show ¬ (nI t) < (nI run) from nI_nlt (b := run) (a := t) (by omega) (by omega))) (fun _ => ?_)
      rcases (show e0 + e1 + e2 + e3 = 0 ∨ 0 < e0 + e1 + e2 + e3 by omega) with hst | hst
      · refine lv_iload_n hx hb dL_isEngine_317 rfl (lv_at hl 1 rfl) ?_
        refine lv_if_ne (tgt := 325) hx hb dL_isEngine_318 (by decide) (fun q => absurd (show (nI (e0 + e1 + e2 + e3)) = (0 : Int32) from congrArg nI (show e0 + e1 + e2 + e3 = 0 by omega)) q) (fun _ => ?_)
        refine lv_iconst (v := (nI 1)) hx hb dL_isEngine_321 (by decide) ?_
        refine lv_goto (tgt := 326) hx hb dL_isEngine_322 (by decide) ?_
        refine lv_aload_n hx hb dL_isEngine_326 rfl (lv_at hl 3 rfl) ?_
        refine lv_iconst (v := (nI 0)) hx hb dL_isEngine_327 (by decide) ?_
        refine lv_iconst (v := (nI 0)) hx hb dL_isEngine_328 (by decide) ?_
        refine lk_start hB hP hD hS hW (v := (-6)) (log_ok (OSt_X hW) qk (by omega)) (st_none (k := k) (i := 0) (OSt_X hW) qk (by omega) (by omega)) gL_isEngine_X7_start hl.1 (Nat.le_of_ble_eq_true rfl) dL_isEngine_329 (fun H locs hP hD hS => ?_)
        refine lv_bipush (v := (-6)) hx hb dL_isEngine_332 (by decide) ?_
        refine lv_icmp_ne (tgt := 341) hx hb dL_isEngine_334 (by decide) (fun q => absurd rfl q) (fun _ => ?_)
        refine lv_iconst (v := (nI 1)) hx hb dL_isEngine_337 (by decide) ?_
        refine lv_goto (tgt := 342) hx hb dL_isEngine_338 (by decide) ?_
        refine lv_icmp_ne (tgt := 372) hx hb dL_isEngine_342 (by decide) (fun q => absurd (show (nI 1) = (nI 1) from congrArg nI (show 1 = 1 by omega)) q) (fun _ => ?_)
        refine lv_aload_n hx hb dL_isEngine_345 rfl (lv_at hl 3 rfl) ?_
        refine lv_iload_n hx hb dL_isEngine_346 rfl (lv_at hl 1 rfl) ?_
        refine lv_iconst (v := (nI 0)) hx hb dL_isEngine_347 (by decide) ?_
        refine lk_start hB hP hD hS hW (v := (-6)) (log_ok (OSt_X hW) qk (by omega)) (st_none (k := k) (i := e0 + e1 + e2 + e3) (OSt_X hW) qk (by omega) (by omega)) gL_isEngine_X7_start hl.1 (Nat.le_of_ble_eq_true rfl) dL_isEngine_348 (fun H locs hP hD hS => ?_)
        refine lv_bipush (v := (-6)) hx hb dL_isEngine_351 (by decide) ?_
        refine lv_icmp_ne (tgt := 372) hx hb dL_isEngine_353 (by decide) (fun q => absurd rfl q) (fun _ => ?_)
        refine lv_aload_n hx hb dL_isEngine_356 rfl (lv_at hl 3 rfl) ?_
        refine lv_bipush (v := (nI 10)) hx hb dL_isEngine_357 (by decide) ?_
        refine lv_iconst (v := (nI 0)) hx hb dL_isEngine_359 (by decide) ?_
        refine lk_start hB hP hD hS hW (v := (-6)) (log_ok (OSt_X hW) qk (by omega)) (st_none (k := k) (i := 10) (OSt_X hW) qk (by omega) (by omega)) gL_isEngine_X7_start hl.1 (Nat.le_of_ble_eq_true rfl) dL_isEngine_360 (fun H locs hP hD hS => ?_)
        refine lv_bipush (v := (-6)) hx hb dL_isEngine_363 (by decide) ?_
        refine lv_icmp_ne (tgt := 372) hx hb dL_isEngine_365 (by decide) (fun q => absurd rfl q) (fun _ => ?_)
        refine lv_iconst (v := (nI 1)) hx hb dL_isEngine_368 (by decide) ?_
        refine lv_goto (tgt := 373) hx hb dL_isEngine_369 (by decide) ?_
        exact jLc_ret hB hr hlocks hP hS dL_isEngine_373 hW
      · refine lv_iload_n hx hb dL_isEngine_317 rfl (lv_at hl 1 rfl) ?_
        refine lv_if_ne (tgt := 325) hx hb dL_isEngine_318 (by decide) (fun _ => ?_) (fun q => absurd q (show ¬ (nI (e0 + e1 + e2 + e3)) = (0 : Int32) from fun z => absurd ((nI_eq (a := e0 + e1 + e2 + e3) (b := 0) (by omega) (by omega)).mp z) (by omega)))
        refine lv_iconst (v := (nI 0)) hx hb dL_isEngine_325 (by decide) ?_
        refine lv_aload_n hx hb dL_isEngine_326 rfl (lv_at hl 3 rfl) ?_
        refine lv_iconst (v := (nI 0)) hx hb dL_isEngine_327 (by decide) ?_
        refine lv_iconst (v := (nI 0)) hx hb dL_isEngine_328 (by decide) ?_
        obtain ⟨w0, n0, h0, b0, i1, -, -, -, -, -, i2, -⟩ := qlg 0 (by omega)
        refine lk_start hB hP hD hS hW (v := (nI w0)) (log_ok (OSt_X hW) qk (by omega)) ((st_val (k := k) (i := 0) (w := 0) (OSt_X hW) qk (by omega) (by omega) (by omega)).trans i2) gL_isEngine_X7_start hl.1 (Nat.le_of_ble_eq_true rfl) dL_isEngine_329 (fun H locs hP hD hS => ?_)
        refine lv_bipush (v := (-6)) hx hb dL_isEngine_332 (by decide) ?_
        refine lv_icmp_ne (tgt := 341) hx hb dL_isEngine_334 (by decide) (fun _ => ?_) (fun q => absurd q (nI_m (n := w0) (by omega) (by decide)))
        refine lv_iconst (v := (nI 0)) hx hb dL_isEngine_341 (by decide) ?_
        refine lv_icmp_ne (tgt := 372) hx hb dL_isEngine_342 (by decide) (fun q => absurd (show (nI 0) = (nI 0) from congrArg nI (show 0 = 0 by omega)) q) (fun _ => ?_)
        refine lv_aload_n hx hb dL_isEngine_345 rfl (lv_at hl 3 rfl) ?_
        refine lv_iload_n hx hb dL_isEngine_346 rfl (lv_at hl 1 rfl) ?_
        refine lv_iconst (v := (nI 0)) hx hb dL_isEngine_347 (by decide) ?_
        refine lk_start hB hP hD hS hW (v := (-6)) (log_ok (OSt_X hW) qk (by omega)) (st_none (k := k) (i := e0 + e1 + e2 + e3) (OSt_X hW) qk (by omega) (by omega)) gL_isEngine_X7_start hl.1 (Nat.le_of_ble_eq_true rfl) dL_isEngine_348 (fun H locs hP hD hS => ?_)
        refine lv_bipush (v := (-6)) hx hb dL_isEngine_351 (by decide) ?_
        refine lv_icmp_ne (tgt := 372) hx hb dL_isEngine_353 (by decide) (fun q => absurd rfl q) (fun _ => ?_)
        refine lv_aload_n hx hb dL_isEngine_356 rfl (lv_at hl 3 rfl) ?_
        refine lv_bipush (v := (nI 10)) hx hb dL_isEngine_357 (by decide) ?_
        refine lv_iconst (v := (nI 0)) hx hb dL_isEngine_359 (by decide) ?_
        refine lk_start hB hP hD hS hW (v := (-6)) (log_ok (OSt_X hW) qk (by omega)) (st_none (k := k) (i := 10) (OSt_X hW) qk (by omega) (by omega)) gL_isEngine_X7_start hl.1 (Nat.le_of_ble_eq_true rfl) dL_isEngine_360 (fun H locs hP hD hS => ?_)
        refine lv_bipush (v := (-6)) hx hb dL_isEngine_363 (by decide) ?_
        refine lv_icmp_ne (tgt := 372) hx hb dL_isEngine_365 (by decide) (fun q => absurd rfl q) (fun _ => ?_)
        refine lv_iconst (v := (nI 1)) hx hb dL_isEngine_368 (by decide) ?_
        refine lv_goto (tgt := 373) hx hb dL_isEngine_369 (by decide) ?_
        exact jLc_ret hB hr hlocks hP hS dL_isEngine_373 hW
    · refine lk_engine hB hP hD hS hW (v := (nI un)) ((en_v9 (OSt_X hW) (n01 qun (by omega))).trans qun) gL_isEngine_X7_engine hl.1 (Nat.le_of_ble_eq_true rfl) dL_isEngine_231 (fun H locs hP hD hS => ?_)
      refine lv_iconst (v := (nI 1)) hx hb dL_isEngine_234 (by decide) ?_
      refine lv_icmp_eq (tgt := 247) hx hb dL_isEngine_235 (by decide) (fun _ => ?_) (fun q => absurd (show (nI un) = (nI 1) from congrArg nI (show un = 1 by omega)) q)
      refine lv_aload_n hx hb dL_isEngine_247 rfl (lv_at hl 3 rfl) ?_
      refine lv_bipush (v := (nI 8)) hx hb dL_isEngine_248 (by decide) ?_
      refine lk_engine hB hP hD hS hW (v := (nI ru)) ((en_v8 (OSt_X hW)).trans qru) gL_isEngine_X7_engine hl.1 (Nat.le_of_ble_eq_true rfl) dL_isEngine_250 (fun H locs hP hD hS => ?_)
      refine lv_if_eq (tgt := 277) hx hb dL_isEngine_253 (by decide) (fun _ => ?_) (fun q => absurd (show (nI ru) = (0 : Int32) from congrArg nI (show ru = 0 by omega)) q)
      refine lv_iconst (v := (nI 1)) hx hb dL_isEngine_277 (by decide) ?_
      refine lv_goto (tgt := 282) hx hb dL_isEngine_278 (by decide) ?_
      refine lv_istore_n (lv' := [(2, .int (nI 1)), (3, .int (nI (e0 + e1 + e2 + e3))), (1, .int (nI 0)), (0, .ref (a 0))]) hx hb dL_isEngine_282 rfl hl (by decide) rfl (fun ls hl => ?_)
      refine lv_iload_n hx hb dL_isEngine_283 rfl (lv_at hl 0 rfl) ?_
      refine lv_if_eq (tgt := 372) hx hb dL_isEngine_284 (by decide) (fun q => absurd q (show ¬ (nI 1) = (0 : Int32) from fun z => absurd ((nI_eq (a := 1) (b := 0) (by omega) (by omega)).mp z) (by omega))) (fun _ => ?_)
      refine lv_aload_n hx hb dL_isEngine_287 rfl (lv_at hl 3 rfl) ?_
      refine lv_bipush (v := (nI 12)) hx hb dL_isEngine_288 (by decide) ?_
      refine lk_count hB hP hD hS hW (v := (nI hot)) ((co_v12 (OSt_X hW)).trans qhot) gL_isEngine_X7_count hl.1 (Nat.le_of_ble_eq_true rfl) dL_isEngine_290 (fun H locs hP hD hS => ?_)
      refine lv_aload_n hx hb dL_isEngine_293 rfl (lv_at hl 3 rfl) ?_
      refine lv_bipush (v := (nI 7)) hx hb dL_isEngine_294 (by decide) ?_
      refine lk_count hB hP hD hS hW (v := (nI t)) ((co_v7 (OSt_X hW)).trans qt) gL_isEngine_X7_count hl.1 (Nat.le_of_ble_eq_true rfl) dL_isEngine_296 (fun H locs hP hD hS => ?_)
      refine lv_icmp_gt (tgt := 372) hx hb dL_isEngine_299 (by decide) (fun q => absurd q (show ¬ (nI t) < (nI hot) from nI_nlt (b := hot) (a := t) (by omega) (by omega))) (fun _ => ?_)
      refine lv_aload_n hx hb dL_isEngine_302 rfl (lv_at hl 3 rfl) ?_
      refine lv_bipush (v := (nI 13)) hx hb dL_isEngine_303 (by decide) ?_
      refine lk_count hB hP hD hS hW (v := (nI run)) ((co_v13 (OSt_X hW)).trans qrun) gL_isEngine_X7_count hl.1 (Nat.le_of_ble_eq_true rfl) dL_isEngine_305 (fun H locs hP hD hS => ?_)
      refine lv_aload_n hx hb dL_isEngine_308 rfl (lv_at hl 3 rfl) ?_
      refine lv_bipush (v := (nI 7)) hx hb dL_isEngine_309 (by decide) ?_
      refine lk_count hB hP hD hS hW (v := (nI t)) ((co_v7 (OSt_X hW)).trans qt) gL_isEngine_X7_count hl.1 (Nat.le_of_ble_eq_true rfl) dL_isEngine_311 (fun H locs hP hD hS => ?_)
      refine lv_icmp_gt (tgt := 372) hx hb dL_isEngine_314 (by decide) (fun q => absurd q (show ¬ (nI t) < (nI run) from nI_nlt (b := run) (a := t) (by omega) (by omega))) (fun _ => ?_)
      rcases (show e0 + e1 + e2 + e3 = 0 ∨ 0 < e0 + e1 + e2 + e3 by omega) with hst | hst
      · refine lv_iload_n hx hb dL_isEngine_317 rfl (lv_at hl 1 rfl) ?_
        refine lv_if_ne (tgt := 325) hx hb dL_isEngine_318 (by decide) (fun q => absurd (show (nI (e0 + e1 + e2 + e3)) = (0 : Int32) from congrArg nI (show e0 + e1 + e2 + e3 = 0 by omega)) q) (fun _ => ?_)
        refine lv_iconst (v := (nI 1)) hx hb dL_isEngine_321 (by decide) ?_
        refine lv_goto (tgt := 326) hx hb dL_isEngine_322 (by decide) ?_
        refine lv_aload_n hx hb dL_isEngine_326 rfl (lv_at hl 3 rfl) ?_
        refine lv_iconst (v := (nI 0)) hx hb dL_isEngine_327 (by decide) ?_
        refine lv_iconst (v := (nI 0)) hx hb dL_isEngine_328 (by decide) ?_
        refine lk_start hB hP hD hS hW (v := (-6)) (log_ok (OSt_X hW) qk (by omega)) (st_none (k := k) (i := 0) (OSt_X hW) qk (by omega) (by omega)) gL_isEngine_X7_start hl.1 (Nat.le_of_ble_eq_true rfl) dL_isEngine_329 (fun H locs hP hD hS => ?_)
        refine lv_bipush (v := (-6)) hx hb dL_isEngine_332 (by decide) ?_
        refine lv_icmp_ne (tgt := 341) hx hb dL_isEngine_334 (by decide) (fun q => absurd rfl q) (fun _ => ?_)
        refine lv_iconst (v := (nI 1)) hx hb dL_isEngine_337 (by decide) ?_
        refine lv_goto (tgt := 342) hx hb dL_isEngine_338 (by decide) ?_
        refine lv_icmp_ne (tgt := 372) hx hb dL_isEngine_342 (by decide) (fun q => absurd (show (nI 1) = (nI 1) from congrArg nI (show 1 = 1 by omega)) q) (fun _ => ?_)
        refine lv_aload_n hx hb dL_isEngine_345 rfl (lv_at hl 3 rfl) ?_
        refine lv_iload_n hx hb dL_isEngine_346 rfl (lv_at hl 1 rfl) ?_
        refine lv_iconst (v := (nI 0)) hx hb dL_isEngine_347 (by decide) ?_
        refine lk_start hB hP hD hS hW (v := (-6)) (log_ok (OSt_X hW) qk (by omega)) (st_none (k := k) (i := e0 + e1 + e2 + e3) (OSt_X hW) qk (by omega) (by omega)) gL_isEngine_X7_start hl.1 (Nat.le_of_ble_eq_true rfl) dL_isEngine_348 (fun H locs hP hD hS => ?_)
        refine lv_bipush (v := (-6)) hx hb dL_isEngine_351 (by decide) ?_
        refine lv_icmp_ne (tgt := 372) hx hb dL_isEngine_353 (by decide) (fun q => absurd rfl q) (fun _ => ?_)
        refine lv_aload_n hx hb dL_isEngine_356 rfl (lv_at hl 3 rfl) ?_
        refine lv_bipush (v := (nI 10)) hx hb dL_isEngine_357 (by decide) ?_
        refine lv_iconst (v := (nI 0)) hx hb dL_isEngine_359 (by decide) ?_
        refine lk_start hB hP hD hS hW (v := (-6)) (log_ok (OSt_X hW) qk (by omega)) (st_none (k := k) (i := 10) (OSt_X hW) qk (by omega) (by omega)) gL_isEngine_X7_start hl.1 (Nat.le_of_ble_eq_true rfl) dL_isEngine_360 (fun H locs hP hD hS => ?_)
        refine lv_bipush (v := (-6)) hx hb dL_isEngine_363 (by decide) ?_
        refine lv_icmp_ne (tgt := 372) hx hb dL_isEngine_365 (by decide) (fun q => absurd rfl q) (fun _ => ?_)
        refine lv_iconst (v := (nI 1)) hx hb dL_isEngine_368 (by decide) ?_
        refine lv_goto (tgt := 373) hx hb dL_isEngine_369 (by decide) ?_
        exact jLc_ret hB hr hlocks hP hS dL_isEngine_373 hW
      · refine lv_iload_n hx hb dL_isEngine_317 rfl (lv_at hl 1 rfl) ?_
        refine lv_if_ne (tgt := 325) hx hb dL_isEngine_318 (by decide) (fun _ => ?_) (fun q => absurd q (show ¬ (nI (e0 + e1 + e2 + e3)) = (0 : Int32) from fun z => absurd ((nI_eq (a := e0 + e1 + e2 + e3) (b := 0) (by omega) (by omega)).mp z) (by omega)))
        refine lv_iconst (v := (nI 0)) hx hb dL_isEngine_325 (by decide) ?_
        refine lv_aload_n hx hb dL_isEngine_326 rfl (lv_at hl 3 rfl) ?_
        refine lv_iconst (v := (nI 0)) hx hb dL_isEngine_327 (by decide) ?_
        refine lv_iconst (v := (nI 0)) hx hb dL_isEngine_328 (by decide) ?_
        obtain ⟨w0, n0, h0, b0, i1, -, -, -, -, -, i2, -⟩ := qlg 0 (by omega)
        refine lk_start hB hP hD hS hW (v := (nI w0)) (log_ok (OSt_X hW) qk (by omega)) ((st_val (k := k) (i := 0) (w := 0) (OSt_X hW) qk (by omega) (by omega) (by omega)).trans i2) gL_isEngine_X7_start hl.1 (Nat.le_of_ble_eq_true rfl) dL_isEngine_329 (fun H locs hP hD hS => ?_)
        refine lv_bipush (v := (-6)) hx hb dL_isEngine_332 (by decide) ?_
        refine lv_icmp_ne (tgt := 341) hx hb dL_isEngine_334 (by decide) (fun _ => ?_) (fun q => absurd q (nI_m (n := w0) (by omega) (by decide)))
        refine lv_iconst (v := (nI 0)) hx hb dL_isEngine_341 (by decide) ?_
        refine lv_icmp_ne (tgt := 372) hx hb dL_isEngine_342 (by decide) (fun q => absurd (show (nI 0) = (nI 0) from congrArg nI (show 0 = 0 by omega)) q) (fun _ => ?_)
        refine lv_aload_n hx hb dL_isEngine_345 rfl (lv_at hl 3 rfl) ?_
        refine lv_iload_n hx hb dL_isEngine_346 rfl (lv_at hl 1 rfl) ?_
        refine lv_iconst (v := (nI 0)) hx hb dL_isEngine_347 (by decide) ?_
        refine lk_start hB hP hD hS hW (v := (-6)) (log_ok (OSt_X hW) qk (by omega)) (st_none (k := k) (i := e0 + e1 + e2 + e3) (OSt_X hW) qk (by omega) (by omega)) gL_isEngine_X7_start hl.1 (Nat.le_of_ble_eq_true rfl) dL_isEngine_348 (fun H locs hP hD hS => ?_)
        refine lv_bipush (v := (-6)) hx hb dL_isEngine_351 (by decide) ?_
        refine lv_icmp_ne (tgt := 372) hx hb dL_isEngine_353 (by decide) (fun q => absurd rfl q) (fun _ => ?_)
        refine lv_aload_n hx hb dL_isEngine_356 rfl (lv_at hl 3 rfl) ?_
        refine lv_bipush (v := (nI 10)) hx hb dL_isEngine_357 (by decide) ?_
        refine lv_iconst (v := (nI 0)) hx hb dL_isEngine_359 (by decide) ?_
        refine lk_start hB hP hD hS hW (v := (-6)) (log_ok (OSt_X hW) qk (by omega)) (st_none (k := k) (i := 10) (OSt_X hW) qk (by omega) (by omega)) gL_isEngine_X7_start hl.1 (Nat.le_of_ble_eq_true rfl) dL_isEngine_360 (fun H locs hP hD hS => ?_)
        refine lv_bipush (v := (-6)) hx hb dL_isEngine_363 (by decide) ?_
        refine lv_icmp_ne (tgt := 372) hx hb dL_isEngine_365 (by decide) (fun q => absurd rfl q) (fun _ => ?_)
        refine lv_iconst (v := (nI 1)) hx hb dL_isEngine_368 (by decide) ?_
        refine lv_goto (tgt := 373) hx hb dL_isEngine_369 (by decide) ?_
        exact jLc_ret hB hr hlocks hP hS dL_isEngine_373 hW
  · refine lv_aload_n hx hb dL_isEngine_0 rfl (lv_at hl 0 rfl) ?_
    refine lv_bipush (v := (nI 6)) hx hb dL_isEngine_1 (by decide) ?_
    refine lk_engine hB hP hD hS hW (v := (nI fl)) ((en_v6 (OSt_X hW) (n01 qfl (by omega))).trans qfl) gL_isEngine_X7_engine hl.1 (Nat.le_of_ble_eq_true rfl) dL_isEngine_3 (fun H locs hP hD hS => ?_)
    refine lv_iconst (v := (nI 1)) hx hb dL_isEngine_6 (by decide) ?_
    refine lv_icmp_ne (tgt := 14) hx hb dL_isEngine_7 (by decide) (fun q => absurd (show (nI fl) = (nI 1) from congrArg nI (show fl = 1 by omega)) q) (fun _ => ?_)
    refine lv_iconst (v := (nI 1)) hx hb dL_isEngine_10 (by decide) ?_
    refine lv_goto (tgt := 15) hx hb dL_isEngine_11 (by decide) ?_
    refine lv_istore_n (lv' := [(1, .int (nI 1)), (0, .ref (a 0))]) hx hb dL_isEngine_15 rfl hl (by decide) rfl (fun ls hl => ?_)
    refine lv_aload_n hx hb dL_isEngine_16 rfl (lv_at hl 1 rfl) ?_
    refine lv_iconst (v := (nI 0)) hx hb dL_isEngine_17 (by decide) ?_
    refine lk_engine hB hP hD hS hW (v := (nI sp)) ((en_v0 (OSt_X hW)).trans qsp) gL_isEngine_X7_engine hl.1 (Nat.le_of_ble_eq_true rfl) dL_isEngine_18 (fun H locs hP hD hS => ?_)
    refine lv_if_lt (tgt := 126) hx hb dL_isEngine_21 (by decide) (fun q => absurd q (show ¬ (nI sp) < (0 : Int32) from nI_nlt (b := 0) (a := sp) (by omega) (by omega))) (fun _ => ?_)
    refine lv_aload_n hx hb dL_isEngine_24 rfl (lv_at hl 1 rfl) ?_
    refine lv_iconst (v := (nI 0)) hx hb dL_isEngine_25 (by decide) ?_
    refine lk_engine hB hP hD hS hW (v := (nI sp)) ((en_v0 (OSt_X hW)).trans qsp) gL_isEngine_X7_engine hl.1 (Nat.le_of_ble_eq_true rfl) dL_isEngine_26 (fun H locs hP hD hS => ?_)
    refine lv_sipush (v := (nI 1100)) hx hb dL_isEngine_29 (by decide) ?_
    refine lv_icmp_gt (tgt := 126) hx hb dL_isEngine_32 (by decide) (fun q => absurd q (show ¬ (nI 1100) < (nI sp) from nI_nlt (b := sp) (a := 1100) (by omega) (by omega))) (fun _ => ?_)
    refine lv_aload_n hx hb dL_isEngine_35 rfl (lv_at hl 1 rfl) ?_
    refine lv_iconst (v := (nI 1)) hx hb dL_isEngine_36 (by decide) ?_
    refine lk_engine hB hP hD hS hW (v := (nI he)) ((en_v1 (OSt_X hW)).trans qhe) gL_isEngine_X7_engine hl.1 (Nat.le_of_ble_eq_true rfl) dL_isEngine_37 (fun H locs hP hD hS => ?_)
    refine lv_if_lt (tgt := 126) hx hb dL_isEngine_40 (by decide) (fun q => absurd q (show ¬ (nI he) < (0 : Int32) from nI_nlt (b := 0) (a := he) (by omega) (by omega))) (fun _ => ?_)
    refine lv_aload_n hx hb dL_isEngine_43 rfl (lv_at hl 1 rfl) ?_
    refine lv_iconst (v := (nI 1)) hx hb dL_isEngine_44 (by decide) ?_
    refine lk_engine hB hP hD hS hW (v := (nI he)) ((en_v1 (OSt_X hW)).trans qhe) gL_isEngine_X7_engine hl.1 (Nat.le_of_ble_eq_true rfl) dL_isEngine_45 (fun H locs hP hD hS => ?_)
    refine lv_sipush (v := (nI 2000)) hx hb dL_isEngine_48 (by decide) ?_
    refine lv_icmp_gt (tgt := 126) hx hb dL_isEngine_51 (by decide) (fun q => absurd q (show ¬ (nI 2000) < (nI he) from nI_nlt (b := he) (a := 2000) (by omega) (by omega))) (fun _ => ?_)
    refine lv_aload_n hx hb dL_isEngine_54 rfl (lv_at hl 1 rfl) ?_
    refine lv_iconst (v := (nI 2)) hx hb dL_isEngine_55 (by decide) ?_
    refine lk_engine hB hP hD hS hW (v := (nI st)) ((en_v2 (OSt_X hW)).trans qst) gL_isEngine_X7_engine hl.1 (Nat.le_of_ble_eq_true rfl) dL_isEngine_56 (fun H locs hP hD hS => ?_)
    refine lv_if_lt (tgt := 126) hx hb dL_isEngine_59 (by decide) (fun q => absurd q (show ¬ (nI st) < (0 : Int32) from nI_nlt (b := 0) (a := st) (by omega) (by omega))) (fun _ => ?_)
    refine lv_aload_n hx hb dL_isEngine_62 rfl (lv_at hl 1 rfl) ?_
    refine lv_iconst (v := (nI 2)) hx hb dL_isEngine_63 (by decide) ?_
    refine lk_engine hB hP hD hS hW (v := (nI st)) ((en_v2 (OSt_X hW)).trans qst) gL_isEngine_X7_engine hl.1 (Nat.le_of_ble_eq_true rfl) dL_isEngine_64 (fun H locs hP hD hS => ?_)
    refine lv_bipush (v := (nI 10)) hx hb dL_isEngine_67 (by decide) ?_
    refine lv_icmp_gt (tgt := 126) hx hb dL_isEngine_69 (by decide) (fun q => absurd q (show ¬ (nI 10) < (nI st) from nI_nlt (b := st) (a := 10) (by omega) (by omega))) (fun _ => ?_)
    refine lv_aload_n hx hb dL_isEngine_72 rfl (lv_at hl 1 rfl) ?_
    refine lv_iconst (v := (nI 3)) hx hb dL_isEngine_73 (by decide) ?_
    refine lk_engine hB hP hD hS hW (v := (nI po)) ((en_v3 (OSt_X hW)).trans qpo) gL_isEngine_X7_engine hl.1 (Nat.le_of_ble_eq_true rfl) dL_isEngine_74 (fun H locs hP hD hS => ?_)
    refine lv_if_lt (tgt := 126) hx hb dL_isEngine_77 (by decide) (fun q => absurd q (show ¬ (nI po) < (0 : Int32) from nI_nlt (b := 0) (a := po) (by omega) (by omega))) (fun _ => ?_)
    refine lv_aload_n hx hb dL_isEngine_80 rfl (lv_at hl 1 rfl) ?_
    refine lv_iconst (v := (nI 3)) hx hb dL_isEngine_81 (by decide) ?_
    refine lk_engine hB hP hD hS hW (v := (nI po)) ((en_v3 (OSt_X hW)).trans qpo) gL_isEngine_X7_engine hl.1 (Nat.le_of_ble_eq_true rfl) dL_isEngine_82 (fun H locs hP hD hS => ?_)
    refine lv_bipush (v := (nI 100)) hx hb dL_isEngine_85 (by decide) ?_
    refine lv_icmp_gt (tgt := 126) hx hb dL_isEngine_87 (by decide) (fun q => absurd q (show ¬ (nI 100) < (nI po) from nI_nlt (b := po) (a := 100) (by omega) (by omega))) (fun _ => ?_)
    refine lv_aload_n hx hb dL_isEngine_90 rfl (lv_at hl 1 rfl) ?_
    refine lv_bipush (v := (nI 7)) hx hb dL_isEngine_91 (by decide) ?_
    refine lk_engine hB hP hD hS hW (v := (nI ba)) ((en_v7 (OSt_X hW)).trans qba) gL_isEngine_X7_engine hl.1 (Nat.le_of_ble_eq_true rfl) dL_isEngine_93 (fun H locs hP hD hS => ?_)
    refine lv_if_lt (tgt := 126) hx hb dL_isEngine_96 (by decide) (fun q => absurd q (show ¬ (nI ba) < (0 : Int32) from nI_nlt (b := 0) (a := ba) (by omega) (by omega))) (fun _ => ?_)
    refine lv_aload_n hx hb dL_isEngine_99 rfl (lv_at hl 1 rfl) ?_
    refine lv_bipush (v := (nI 7)) hx hb dL_isEngine_100 (by decide) ?_
    refine lk_engine hB hP hD hS hW (v := (nI ba)) ((en_v7 (OSt_X hW)).trans qba) gL_isEngine_X7_engine hl.1 (Nat.le_of_ble_eq_true rfl) dL_isEngine_102 (fun H locs hP hD hS => ?_)
    refine lv_sipush (v := (nI 1000)) hx hb dL_isEngine_105 (by decide) ?_
    refine lv_icmp_gt (tgt := 126) hx hb dL_isEngine_108 (by decide) (fun q => absurd q (show ¬ (nI 1000) < (nI ba) from nI_nlt (b := ba) (a := 1000) (by omega) (by omega))) (fun _ => ?_)
    refine lv_aload_n hx hb dL_isEngine_111 rfl (lv_at hl 1 rfl) ?_
    refine lv_bipush (v := (nI 11)) hx hb dL_isEngine_112 (by decide) ?_
    refine lk_engine hB hP hD hS hW (v := (-2)) (en_v11 _) gL_isEngine_X7_engine hl.1 (Nat.le_of_ble_eq_true rfl) dL_isEngine_114 (fun H locs hP hD hS => ?_)
    refine lv_bipush (v := (-2)) hx hb dL_isEngine_117 (by decide) ?_
    refine lv_icmp_ne (tgt := 126) hx hb dL_isEngine_119 (by decide) (fun q => absurd rfl q) (fun _ => ?_)
    refine lv_iconst (v := (nI 1)) hx hb dL_isEngine_122 (by decide) ?_
    refine lv_goto (tgt := 127) hx hb dL_isEngine_123 (by decide) ?_
    refine lv_istore_n (lv' := [(2, .int (nI 1)), (1, .int (nI 1)), (0, .ref (a 0))]) hx hb dL_isEngine_127 rfl hl (by decide) rfl (fun ls hl => ?_)
    refine lv_aload_n hx hb dL_isEngine_128 rfl (lv_at hl 2 rfl) ?_
    refine lv_bipush (v := (nI 8)) hx hb dL_isEngine_129 (by decide) ?_
    refine lk_count hB hP hD hS hW (v := (nI e0)) ((co_v8 (OSt_X hW)).trans qe0) gL_isEngine_X7_count hl.1 (Nat.le_of_ble_eq_true rfl) dL_isEngine_131 (fun H locs hP hD hS => ?_)
    refine lv_aload_n hx hb dL_isEngine_134 rfl (lv_at hl 2 rfl) ?_
    refine lv_bipush (v := (nI 9)) hx hb dL_isEngine_135 (by decide) ?_
    refine lk_count hB hP hD hS hW (v := (nI e1)) ((co_v9 (OSt_X hW)).trans qe1) gL_isEngine_X7_count hl.1 (Nat.le_of_ble_eq_true rfl) dL_isEngine_137 (fun H locs hP hD hS => ?_)
    refine lv_iadd hx hb dL_isEngine_140 ?_
    refine W.eq (g2 := F0 m 141 ls [.int (nI (e0 + e1))]) (by rw [nI_add]) ?_
    refine lv_aload_n hx hb dL_isEngine_141 rfl (lv_at hl 2 rfl) ?_
    refine lv_bipush (v := (nI 10)) hx hb dL_isEngine_142 (by decide) ?_
    refine lk_count hB hP hD hS hW (v := (nI e2)) ((co_v10 (OSt_X hW)).trans qe2) gL_isEngine_X7_count hl.1 (Nat.le_of_ble_eq_true rfl) dL_isEngine_144 (fun H locs hP hD hS => ?_)
    refine lv_iadd hx hb dL_isEngine_147 ?_
    refine W.eq (g2 := F0 m 148 ls [.int (nI (e0 + e1 + e2))]) (by rw [nI_add]) ?_
    refine lv_aload_n hx hb dL_isEngine_148 rfl (lv_at hl 2 rfl) ?_
    refine lv_bipush (v := (nI 11)) hx hb dL_isEngine_149 (by decide) ?_
    refine lk_count hB hP hD hS hW (v := (nI e3)) ((co_v11 (OSt_X hW)).trans qe3) gL_isEngine_X7_count hl.1 (Nat.le_of_ble_eq_true rfl) dL_isEngine_151 (fun H locs hP hD hS => ?_)
    refine lv_iadd hx hb dL_isEngine_154 ?_
    refine W.eq (g2 := F0 m 155 ls [.int (nI (e0 + e1 + e2 + e3))]) (by rw [nI_add]) ?_
    refine lv_istore_n (lv' := [(3, .int (nI (e0 + e1 + e2 + e3))), (2, .int (nI 1)), (1, .int (nI 1)), (0, .ref (a 0))]) hx hb dL_isEngine_155 rfl hl (by decide) rfl (fun ls hl => ?_)
    refine lv_iload_n hx hb dL_isEngine_156 rfl (lv_at hl 1 rfl) ?_
    refine lv_if_eq (tgt := 281) hx hb dL_isEngine_157 (by decide) (fun q => absurd q (show ¬ (nI 1) = (0 : Int32) from fun z => absurd ((nI_eq (a := 1) (b := 0) (by omega) (by omega)).mp z) (by omega))) (fun _ => ?_)
    refine lv_aload_n hx hb dL_isEngine_160 rfl (lv_at hl 3 rfl) ?_
    refine lv_bipush (v := (nI 8)) hx hb dL_isEngine_161 (by decide) ?_
    refine lk_engine hB hP hD hS hW (v := (nI ru)) ((en_v8 (OSt_X hW)).trans qru) gL_isEngine_X7_engine hl.1 (Nat.le_of_ble_eq_true rfl) dL_isEngine_163 (fun H locs hP hD hS => ?_)
    refine lv_iload_n hx hb dL_isEngine_166 rfl (lv_at hl 2 rfl) ?_
    refine lv_if_eq (tgt := 185) hx hb dL_isEngine_167 (by decide) (fun q => absurd q (show ¬ (nI 1) = (0 : Int32) from fun z => absurd ((nI_eq (a := 1) (b := 0) (by omega) (by omega)).mp z) (by omega))) (fun _ => ?_)
    refine lv_aload_n hx hb dL_isEngine_170 rfl (lv_at hl 3 rfl) ?_
    refine lv_iconst (v := (nI 0)) hx hb dL_isEngine_171 (by decide) ?_
    rcases (show sp < 600 ∨ 600 ≤ sp by omega) with hsp | hsp
    · refine lk_engine hB hP hD hS hW (v := (nI sp)) ((en_v0 (OSt_X hW)).trans qsp) gL_isEngine_X7_engine hl.1 (Nat.le_of_ble_eq_true rfl) dL_isEngine_172 (fun H locs hP hD hS => ?_)
      refine lv_sipush (v := (nI 600)) hx hb dL_isEngine_175 (by decide) ?_
      refine lv_icmp_lt (tgt := 185) hx hb dL_isEngine_178 (by decide) (fun _ => ?_) (fun q => absurd (show (nI sp) < (nI 600) from nI_lt (a := sp) (b := 600) (by omega) (by omega)) q)
      refine lv_iconst (v := (nI 0)) hx hb dL_isEngine_185 (by decide) ?_
      refine lv_icmp_ne (tgt := 281) hx hb dL_isEngine_186 (by decide) (fun q => absurd (show (nI ru) = (nI 0) from congrArg nI (show ru = 0 by omega)) q) (fun _ => ?_)
      refine lv_aload_n hx hb dL_isEngine_189 rfl (lv_at hl 3 rfl) ?_
      refine lv_iconst (v := (nI 1)) hx hb dL_isEngine_190 (by decide) ?_
      refine lk_engine hB hP hD hS hW (v := (nI he)) ((en_v1 (OSt_X hW)).trans qhe) gL_isEngine_X7_engine hl.1 (Nat.le_of_ble_eq_true rfl) dL_isEngine_191 (fun H locs hP hD hS => ?_)
      refine lv_aload_n hx hb dL_isEngine_194 rfl (lv_at hl 3 rfl) ?_
      refine lv_bipush (v := (nI 16)) hx hb dL_isEngine_195 (by decide) ?_
      refine lk_count hB hP hD hS hW (v := (nI g)) ((co_v16 (OSt_X hW)).trans qg) gL_isEngine_X7_count hl.1 (Nat.le_of_ble_eq_true rfl) dL_isEngine_197 (fun H locs hP hD hS => ?_)
      refine lv_icmp_gt (tgt := 281) hx hb dL_isEngine_200 (by decide) (fun q => absurd q (show ¬ (nI g) < (nI he) from nI_nlt (b := he) (a := g) (by omega) (by omega))) (fun _ => ?_)
      refine lv_aload_n hx hb dL_isEngine_203 rfl (lv_at hl 3 rfl) ?_
      refine lv_bipush (v := (nI 14)) hx hb dL_isEngine_204 (by decide) ?_
      refine lk_count hB hP hD hS hW (v := (nI (lost + fl))) ((co_v14 (OSt_X hW)).trans qnw) gL_isEngine_X7_count hl.1 (Nat.le_of_ble_eq_true rfl) dL_isEngine_206 (fun H locs hP hD hS => ?_)
      refine lv_aload_n hx hb dL_isEngine_209 rfl (lv_at hl 3 rfl) ?_
      refine lv_bipush (v := (nI 15)) hx hb dL_isEngine_210 (by decide) ?_
      refine lk_count hB hP hD hS hW (v := (nI lost)) ((co_v15 (OSt_X hW)).trans qlost) gL_isEngine_X7_count hl.1 (Nat.le_of_ble_eq_true rfl) dL_isEngine_212 (fun H locs hP hD hS => ?_)
      refine lv_iload_n hx hb dL_isEngine_215 rfl (lv_at hl 2 rfl) ?_
      refine lv_if_eq (tgt := 223) hx hb dL_isEngine_216 (by decide) (fun q => absurd q (show ¬ (nI 1) = (0 : Int32) from fun z => absurd ((nI_eq (a := 1) (b := 0) (by omega) (by omega)).mp z) (by omega))) (fun _ => ?_)
      refine lv_iconst (v := (nI 1)) hx hb dL_isEngine_219 (by decide) ?_
      refine lv_goto (tgt := 224) hx hb dL_isEngine_220 (by decide) ?_
      refine lv_iadd hx hb dL_isEngine_224 ?_
      refine W.eq (g2 := F0 m 225 ls [.int (nI (lost + 1)), .int (nI (lost + fl))]) (by rw [nI_add]) ?_
      refine lv_icmp_ne (tgt := 281) hx hb dL_isEngine_225 (by decide) (fun q => absurd (show (nI (lost + fl)) = (nI (lost + 1)) from congrArg nI (show lost + fl = lost + 1 by omega)) q) (fun _ => ?_)
      refine lv_aload_n hx hb dL_isEngine_228 rfl (lv_at hl 3 rfl) ?_
      refine lv_bipush (v := (nI 9)) hx hb dL_isEngine_229 (by decide) ?_
      rcases (show un = 0 ∨ un = 1 by omega) with hun | hun
      · refine lk_engine hB hP hD hS hW (v := (nI un)) ((en_v9 (OSt_X hW) (n01 qun (by omega))).trans qun) gL_isEngine_X7_engine hl.1 (Nat.le_of_ble_eq_true rfl) dL_isEngine_231 (fun H locs hP hD hS => ?_)
        refine lv_iconst (v := (nI 1)) hx hb dL_isEngine_234 (by decide) ?_
        refine lv_icmp_eq (tgt := 247) hx hb dL_isEngine_235 (by decide) (fun q => absurd q (show ¬ (nI un) = (nI 1) from fun z => absurd ((nI_eq (a := un) (b := 1) (by omega) (by omega)).mp z) (by omega))) (fun _ => ?_)
        refine lv_aload_n hx hb dL_isEngine_238 rfl (lv_at hl 3 rfl) ?_
        refine lv_bipush (v := (nI 10)) hx hb dL_isEngine_239 (by decide) ?_
        refine lk_engine hB hP hD hS hW (v := (nI 0)) (en_v10 (OSt_X hW) (qun.trans (congrArg nI (show un = 0 by omega)))) gL_isEngine_X7_engine hl.1 (Nat.le_of_ble_eq_true rfl) dL_isEngine_241 (fun H locs hP hD hS => ?_)
        refine lv_if_ne (tgt := 281) hx hb dL_isEngine_244 (by decide) (fun q => absurd (show (nI 0) = (0 : Int32) from congrArg nI (show 0 = 0 by omega)) q) (fun _ => ?_)
        refine lv_aload_n hx hb dL_isEngine_247 rfl (lv_at hl 3 rfl) ?_
        refine lv_bipush (v := (nI 8)) hx hb dL_isEngine_248 (by decide) ?_
        refine lk_engine hB hP hD hS hW (v := (nI ru)) ((en_v8 (OSt_X hW)).trans qru) gL_isEngine_X7_engine hl.1 (Nat.le_of_ble_eq_true rfl) dL_isEngine_250 (fun H locs hP hD hS => ?_)
        refine lv_if_eq (tgt := 277) hx hb dL_isEngine_253 (by decide) (fun _ => ?_) (fun q => absurd (show (nI ru) = (0 : Int32) from congrArg nI (show ru = 0 by omega)) q)
        refine lv_iconst (v := (nI 1)) hx hb dL_isEngine_277 (by decide) ?_
        refine lv_goto (tgt := 282) hx hb dL_isEngine_278 (by decide) ?_
        refine lv_istore_n (lv' := [(2, .int (nI 1)), (3, .int (nI (e0 + e1 + e2 + e3))), (1, .int (nI 1)), (0, .ref (a 0))]) hx hb dL_isEngine_282 rfl hl (by decide) rfl (fun ls hl => ?_)
        refine lv_iload_n hx hb dL_isEngine_283 rfl (lv_at hl 0 rfl) ?_
        refine lv_if_eq (tgt := 372) hx hb dL_isEngine_284 (by decide) (fun q => absurd q (show ¬ (nI 1) = (0 : Int32) from fun z => absurd ((nI_eq (a := 1) (b := 0) (by omega) (by omega)).mp z) (by omega))) (fun _ => ?_)
        refine lv_aload_n hx hb dL_isEngine_287 rfl (lv_at hl 3 rfl) ?_
        refine lv_bipush (v := (nI 12)) hx hb dL_isEngine_288 (by decide) ?_
        refine lk_count hB hP hD hS hW (v := (nI hot)) ((co_v12 (OSt_X hW)).trans qhot) gL_isEngine_X7_count hl.1 (Nat.le_of_ble_eq_true rfl) dL_isEngine_290 (fun H locs hP hD hS => ?_)
        refine lv_aload_n hx hb dL_isEngine_293 rfl (lv_at hl 3 rfl) ?_
        refine lv_bipush (v := (nI 7)) hx hb dL_isEngine_294 (by decide) ?_
        refine lk_count hB hP hD hS hW (v := (nI t)) ((co_v7 (OSt_X hW)).trans qt) gL_isEngine_X7_count hl.1 (Nat.le_of_ble_eq_true rfl) dL_isEngine_296 (fun H locs hP hD hS => ?_)
        refine lv_icmp_gt (tgt := 372) hx hb dL_isEngine_299 (by decide) (fun q => absurd q (show ¬ (nI t) < (nI hot) from nI_nlt (b := hot) (a := t) (by omega) (by omega))) (fun _ => ?_)
        refine lv_aload_n hx hb dL_isEngine_302 rfl (lv_at hl 3 rfl) ?_
        refine lv_bipush (v := (nI 13)) hx hb dL_isEngine_303 (by decide) ?_
        refine lk_count hB hP hD hS hW (v := (nI run)) ((co_v13 (OSt_X hW)).trans qrun) gL_isEngine_X7_count hl.1 (Nat.le_of_ble_eq_true rfl) dL_isEngine_305 (fun H locs hP hD hS => ?_)
        refine lv_aload_n hx hb dL_isEngine_308 rfl (lv_at hl 3 rfl) ?_
        refine lv_bipush (v := (nI 7)) hx hb dL_isEngine_309 (by decide) ?_
        refine lk_count hB hP hD hS hW (v := (nI t)) ((co_v7 (OSt_X hW)).trans qt) gL_isEngine_X7_count hl.1 (Nat.le_of_ble_eq_true rfl) dL_isEngine_311 (fun H locs hP hD hS => ?_)
        refine lv_icmp_gt (tgt := 372) hx hb dL_isEngine_314 (by decide) (fun q => absurd q (show ¬ (nI t) < (nI run) from nI_nlt (b := run) (a := t) (by omega) (by omega))) (fun _ => ?_)
        rcases (show e0 + e1 + e2 + e3 = 0 ∨ 0 < e0 + e1 + e2 + e3 by omega) with hst | hst
        · refine lv_iload_n hx hb dL_isEngine_317 rfl (lv_at hl 1 rfl) ?_
          refine lv_if_ne (tgt := 325) hx hb dL_isEngine_318 (by decide) (fun q => absurd (show (nI (e0 + e1 + e2 + e3)) = (0 : Int32) from congrArg nI (show e0 + e1 + e2 + e3 = 0 by omega)) q) (fun _ => ?_)
          refine lv_iconst (v := (nI 1)) hx hb dL_isEngine_321 (by decide) ?_
          refine lv_goto (tgt := 326) hx hb dL_isEngine_322 (by decide) ?_
          refine lv_aload_n hx hb dL_isEngine_326 rfl (lv_at hl 3 rfl) ?_
          refine lv_iconst (v := (nI 0)) hx hb dL_isEngine_327 (by decide) ?_
          refine lv_iconst (v := (nI 0)) hx hb dL_isEngine_328 (by decide) ?_
          refine lk_start hB hP hD hS hW (v := (-6)) (log_ok (OSt_X hW) qk (by omega)) (st_none (k := k) (i := 0) (OSt_X hW) qk (by omega) (by omega)) gL_isEngine_X7_start hl.1 (Nat.le_of_ble_eq_true rfl) dL_isEngine_329 (fun H locs hP hD hS => ?_)
          refine lv_bipush (v := (-6)) hx hb dL_isEngine_332 (by decide) ?_
          refine lv_icmp_ne (tgt := 341) hx hb dL_isEngine_334 (by decide) (fun q => absurd rfl q) (fun _ => ?_)
          refine lv_iconst (v := (nI 1)) hx hb dL_isEngine_337 (by decide) ?_
          refine lv_goto (tgt := 342) hx hb dL_isEngine_338 (by decide) ?_
          refine lv_icmp_ne (tgt := 372) hx hb dL_isEngine_342 (by decide) (fun q => absurd (show (nI 1) = (nI 1) from congrArg nI (show 1 = 1 by omega)) q) (fun _ => ?_)
          refine lv_aload_n hx hb dL_isEngine_345 rfl (lv_at hl 3 rfl) ?_
          refine lv_iload_n hx hb dL_isEngine_346 rfl (lv_at hl 1 rfl) ?_
          refine lv_iconst (v := (nI 0)) hx hb dL_isEngine_347 (by decide) ?_
          refine lk_start hB hP hD hS hW (v := (-6)) (log_ok (OSt_X hW) qk (by omega)) (st_none (k := k) (i := e0 + e1 + e2 + e3) (OSt_X hW) qk (by omega) (by omega)) gL_isEngine_X7_start hl.1 (Nat.le_of_ble_eq_true rfl) dL_isEngine_348 (fun H locs hP hD hS => ?_)
          refine lv_bipush (v := (-6)) hx hb dL_isEngine_351 (by decide) ?_
          refine lv_icmp_ne (tgt := 372) hx hb dL_isEngine_353 (by decide) (fun q => absurd rfl q) (fun _ => ?_)
          refine lv_aload_n hx hb dL_isEngine_356 rfl (lv_at hl 3 rfl) ?_
          refine lv_bipush (v := (nI 10)) hx hb dL_isEngine_357 (by decide) ?_
          refine lv_iconst (v := (nI 0)) hx hb dL_isEngine_359 (by decide) ?_
          refine lk_start hB hP hD hS hW (v := (-6)) (log_ok (OSt_X hW) qk (by omega)) (st_none (k := k) (i := 10) (OSt_X hW) qk (by omega) (by omega)) gL_isEngine_X7_start hl.1 (Nat.le_of_ble_eq_true rfl) dL_isEngine_360 (fun H locs hP hD hS => ?_)
          refine lv_bipush (v := (-6)) hx hb dL_isEngine_363 (by decide) ?_
          refine lv_icmp_ne (tgt := 372) hx hb dL_isEngine_365 (by decide) (fun q => absurd rfl q) (fun _ => ?_)
          refine lv_iconst (v := (nI 1)) hx hb dL_isEngine_368 (by decide) ?_
          refine lv_goto (tgt := 373) hx hb dL_isEngine_369 (by decide) ?_
          exact jLc_ret hB hr hlocks hP hS dL_isEngine_373 hW
        · refine lv_iload_n hx hb dL_isEngine_317 rfl (lv_at hl 1 rfl) ?_
          refine lv_if_ne (tgt := 325) hx hb dL_isEngine_318 (by decide) (fun _ => ?_) (fun q => absurd q (show ¬ (nI (e0 + e1 + e2 + e3)) = (0 : Int32) from fun z => absurd ((nI_eq (a := e0 + e1 + e2 + e3) (b := 0) (by omega) (by omega)).mp z) (by omega)))
          refine lv_iconst (v := (nI 0)) hx hb dL_isEngine_325 (by decide) ?_
          refine lv_aload_n hx hb dL_isEngine_326 rfl (lv_at hl 3 rfl) ?_
          refine lv_iconst (v := (nI 0)) hx hb dL_isEngine_327 (by decide) ?_
          refine lv_iconst (v := (nI 0)) hx hb dL_isEngine_328 (by decide) ?_
          obtain ⟨w0, n0, h0, b0, i1, -, -, -, -, -, i2, -⟩ := qlg 0 (by omega)
          refine lk_start hB hP hD hS hW (v := (nI w0)) (log_ok (OSt_X hW) qk (by omega)) ((st_val (k := k) (i := 0) (w := 0) (OSt_X hW) qk (by omega) (by omega) (by omega)).trans i2) gL_isEngine_X7_start hl.1 (Nat.le_of_ble_eq_true rfl) dL_isEngine_329 (fun H locs hP hD hS => ?_)
          refine lv_bipush (v := (-6)) hx hb dL_isEngine_332 (by decide) ?_
          refine lv_icmp_ne (tgt := 341) hx hb dL_isEngine_334 (by decide) (fun _ => ?_) (fun q => absurd q (nI_m (n := w0) (by omega) (by decide)))
          refine lv_iconst (v := (nI 0)) hx hb dL_isEngine_341 (by decide) ?_
          refine lv_icmp_ne (tgt := 372) hx hb dL_isEngine_342 (by decide) (fun q => absurd (show (nI 0) = (nI 0) from congrArg nI (show 0 = 0 by omega)) q) (fun _ => ?_)
          refine lv_aload_n hx hb dL_isEngine_345 rfl (lv_at hl 3 rfl) ?_
          refine lv_iload_n hx hb dL_isEngine_346 rfl (lv_at hl 1 rfl) ?_
          refine lv_iconst (v := (nI 0)) hx hb dL_isEngine_347 (by decide) ?_
          refine lk_start hB hP hD hS hW (v := (-6)) (log_ok (OSt_X hW) qk (by omega)) (st_none (k := k) (i := e0 + e1 + e2 + e3) (OSt_X hW) qk (by omega) (by omega)) gL_isEngine_X7_start hl.1 (Nat.le_of_ble_eq_true rfl) dL_isEngine_348 (fun H locs hP hD hS => ?_)
          refine lv_bipush (v := (-6)) hx hb dL_isEngine_351 (by decide) ?_
          refine lv_icmp_ne (tgt := 372) hx hb dL_isEngine_353 (by decide) (fun q => absurd rfl q) (fun _ => ?_)
          refine lv_aload_n hx hb dL_isEngine_356 rfl (lv_at hl 3 rfl) ?_
          refine lv_bipush (v := (nI 10)) hx hb dL_isEngine_357 (by decide) ?_
          refine lv_iconst (v := (nI 0)) hx hb dL_isEngine_359 (by decide) ?_
          refine lk_start hB hP hD hS hW (v := (-6)) (log_ok (OSt_X hW) qk (by omega)) (st_none (k := k) (i := 10) (OSt_X hW) qk (by omega) (by omega)) gL_isEngine_X7_start hl.1 (Nat.le_of_ble_eq_true rfl) dL_isEngine_360 (fun H locs hP hD hS => ?_)
          refine lv_bipush (v := (-6)) hx hb dL_isEngine_363 (by decide) ?_
          refine lv_icmp_ne (tgt := 372) hx hb dL_isEngine_365 (by decide) (fun q => absurd rfl q) (fun _ => ?_)
          refine lv_iconst (v := (nI 1)) hx hb dL_isEngine_368 (by decide) ?_
          refine lv_goto (tgt := 373) hx hb dL_isEngine_369 (by decide) ?_
          exact jLc_ret hB hr hlocks hP hS dL_isEngine_373 hW
      · refine lk_engine hB hP hD hS hW (v := (nI un)) ((en_v9 (OSt_X hW) (n01 qun (by omega))).trans qun) gL_isEngine_X7_engine hl.1 (Nat.le_of_ble_eq_true rfl) dL_isEngine_231 (fun H locs hP hD hS => ?_)
        refine lv_iconst (v := (nI 1)) hx hb dL_isEngine_234 (by decide) ?_
        refine lv_icmp_eq (tgt := 247) hx hb dL_isEngine_235 (by decide) (fun _ => ?_) (fun q => absurd (show (nI un) = (nI 1) from congrArg nI (show un = 1 by omega)) q)
        refine lv_aload_n hx hb dL_isEngine_247 rfl (lv_at hl 3 rfl) ?_
        refine lv_bipush (v := (nI 8)) hx hb dL_isEngine_248 (by decide) ?_
        refine lk_engine hB hP hD hS hW (v := (nI ru)) ((en_v8 (OSt_X hW)).trans qru) gL_isEngine_X7_engine hl.1 (Nat.le_of_ble_eq_true rfl) dL_isEngine_250 (fun H locs hP hD hS => ?_)
        refine lv_if_eq (tgt := 277) hx hb dL_isEngine_253 (by decide) (fun _ => ?_) (fun q => absurd (show (nI ru) = (0 : Int32) from congrArg nI (show ru = 0 by omega)) q)
        refine lv_iconst (v := (nI 1)) hx hb dL_isEngine_277 (by decide) ?_
        refine lv_goto (tgt := 282) hx hb dL_isEngine_278 (by decide) ?_
        refine lv_istore_n (lv' := [(2, .int (nI 1)), (3, .int (nI (e0 + e1 + e2 + e3))), (1, .int (nI 1)), (0, .ref (a 0))]) hx hb dL_isEngine_282 rfl hl (by decide) rfl (fun ls hl => ?_)
        refine lv_iload_n hx hb dL_isEngine_283 rfl (lv_at hl 0 rfl) ?_
        refine lv_if_eq (tgt := 372) hx hb dL_isEngine_284 (by decide) (fun q => absurd q (show ¬ (nI 1) = (0 : Int32) from fun z => absurd ((nI_eq (a := 1) (b := 0) (by omega) (by omega)).mp z) (by omega))) (fun _ => ?_)
        refine lv_aload_n hx hb dL_isEngine_287 rfl (lv_at hl 3 rfl) ?_
        refine lv_bipush (v := (nI 12)) hx hb dL_isEngine_288 (by decide) ?_
        refine lk_count hB hP hD hS hW (v := (nI hot)) ((co_v12 (OSt_X hW)).trans qhot) gL_isEngine_X7_count hl.1 (Nat.le_of_ble_eq_true rfl) dL_isEngine_290 (fun H locs hP hD hS => ?_)
        refine lv_aload_n hx hb dL_isEngine_293 rfl (lv_at hl 3 rfl) ?_
        refine lv_bipush (v := (nI 7)) hx hb dL_isEngine_294 (by decide) ?_
        refine lk_count hB hP hD hS hW (v := (nI t)) ((co_v7 (OSt_X hW)).trans qt) gL_isEngine_X7_count hl.1 (Nat.le_of_ble_eq_true rfl) dL_isEngine_296 (fun H locs hP hD hS => ?_)
        refine lv_icmp_gt (tgt := 372) hx hb dL_isEngine_299 (by decide) (fun q => absurd q (show ¬ (nI t) < (nI hot) from nI_nlt (b := hot) (a := t) (by omega) (by omega))) (fun _ => ?_)
        refine lv_aload_n hx hb dL_isEngine_302 rfl (lv_at hl 3 rfl) ?_
        refine lv_bipush (v := (nI 13)) hx hb dL_isEngine_303 (by decide) ?_
        refine lk_count hB hP hD hS hW (v := (nI run)) ((co_v13 (OSt_X hW)).trans qrun) gL_isEngine_X7_count hl.1 (Nat.le_of_ble_eq_true rfl) dL_isEngine_305 (fun H locs hP hD hS => ?_)
        refine lv_aload_n hx hb dL_isEngine_308 rfl (lv_at hl 3 rfl) ?_
        refine lv_bipush (v := (nI 7)) hx hb dL_isEngine_309 (by decide) ?_
        refine lk_count hB hP hD hS hW (v := (nI t)) ((co_v7 (OSt_X hW)).trans qt) gL_isEngine_X7_count hl.1 (Nat.le_of_ble_eq_true rfl) dL_isEngine_311 (fun H locs hP hD hS => ?_)
        refine lv_icmp_gt (tgt := 372) hx hb dL_isEngine_314 (by decide) (fun q => absurd q (show ¬ (nI t) < (nI run) from nI_nlt (b := run) (a := t) (by omega) (by omega))) (fun _ => ?_)
        rcases (show e0 + e1 + e2 + e3 = 0 ∨ 0 < e0 + e1 + e2 + e3 by omega) with hst | hst
        · refine lv_iload_n hx hb dL_isEngine_317 rfl (lv_at hl 1 rfl) ?_
          refine lv_if_ne (tgt := 325) hx hb dL_isEngine_318 (by decide) (fun q => absurd (show (nI (e0 + e1 + e2 + e3)) = (0 : Int32) from congrArg nI (show e0 + e1 + e2 + e3 = 0 by omega)) q) (fun _ => ?_)
          refine lv_iconst (v := (nI 1)) hx hb dL_isEngine_321 (by decide) ?_
          refine lv_goto (tgt := 326) hx hb dL_isEngine_322 (by decide) ?_
          refine lv_aload_n hx hb dL_isEngine_326 rfl (lv_at hl 3 rfl) ?_
          refine lv_iconst (v := (nI 0)) hx hb dL_isEngine_327 (by decide) ?_
          refine lv_iconst (v := (nI 0)) hx hb dL_isEngine_328 (by decide) ?_
          refine lk_start hB hP hD hS hW (v := (-6)) (log_ok (OSt_X hW) qk (by omega)) (st_none (k := k) (i := 0) (OSt_X hW) qk (by omega) (by omega)) gL_isEngine_X7_start hl.1 (Nat.le_of_ble_eq_true rfl) dL_isEngine_329 (fun H locs hP hD hS => ?_)
          refine lv_bipush (v := (-6)) hx hb dL_isEngine_332 (by decide) ?_
          refine lv_icmp_ne (tgt := 341) hx hb dL_isEngine_334 (by decide) (fun q => absurd rfl q) (fun _ => ?_)
          refine lv_iconst (v := (nI 1)) hx hb dL_isEngine_337 (by decide) ?_
          refine lv_goto (tgt := 342) hx hb dL_isEngine_338 (by decide) ?_
          refine lv_icmp_ne (tgt := 372) hx hb dL_isEngine_342 (by decide) (fun q => absurd (show (nI 1) = (nI 1) from congrArg nI (show 1 = 1 by omega)) q) (fun _ => ?_)
          refine lv_aload_n hx hb dL_isEngine_345 rfl (lv_at hl 3 rfl) ?_
          refine lv_iload_n hx hb dL_isEngine_346 rfl (lv_at hl 1 rfl) ?_
          refine lv_iconst (v := (nI 0)) hx hb dL_isEngine_347 (by decide) ?_
          refine lk_start hB hP hD hS hW (v := (-6)) (log_ok (OSt_X hW) qk (by omega)) (st_none (k := k) (i := e0 + e1 + e2 + e3) (OSt_X hW) qk (by omega) (by omega)) gL_isEngine_X7_start hl.1 (Nat.le_of_ble_eq_true rfl) dL_isEngine_348 (fun H locs hP hD hS => ?_)
          refine lv_bipush (v := (-6)) hx hb dL_isEngine_351 (by decide) ?_
          refine lv_icmp_ne (tgt := 372) hx hb dL_isEngine_353 (by decide) (fun q => absurd rfl q) (fun _ => ?_)
          refine lv_aload_n hx hb dL_isEngine_356 rfl (lv_at hl 3 rfl) ?_
          refine lv_bipush (v := (nI 10)) hx hb dL_isEngine_357 (by decide) ?_
          refine lv_iconst (v := (nI 0)) hx hb dL_isEngine_359 (by decide) ?_
          refine lk_start hB hP hD hS hW (v := (-6)) (log_ok (OSt_X hW) qk (by omega)) (st_none (k := k) (i := 10) (OSt_X hW) qk (by omega) (by omega)) gL_isEngine_X7_start hl.1 (Nat.le_of_ble_eq_true rfl) dL_isEngine_360 (fun H locs hP hD hS => ?_)
          refine lv_bipush (v := (-6)) hx hb dL_isEngine_363 (by decide) ?_
          refine lv_icmp_ne (tgt := 372) hx hb dL_isEngine_365 (by decide) (fun q => absurd rfl q) (fun _ => ?_)
          refine lv_iconst (v := (nI 1)) hx hb dL_isEngine_368 (by decide) ?_
          refine lv_goto (tgt := 373) hx hb dL_isEngine_369 (by decide) ?_
          exact jLc_ret hB hr hlocks hP hS dL_isEngine_373 hW
        · refine lv_iload_n hx hb dL_isEngine_317 rfl (lv_at hl 1 rfl) ?_
          refine lv_if_ne (tgt := 325) hx hb dL_isEngine_318 (by decide) (fun _ => ?_) (fun q => absurd q (show ¬ (nI (e0 + e1 + e2 + e3)) = (0 : Int32) from fun z => absurd ((nI_eq (a := e0 + e1 + e2 + e3) (b := 0) (by omega) (by omega)).mp z) (by omega)))
          refine lv_iconst (v := (nI 0)) hx hb dL_isEngine_325 (by decide) ?_
          refine lv_aload_n hx hb dL_isEngine_326 rfl (lv_at hl 3 rfl) ?_
          refine lv_iconst (v := (nI 0)) hx hb dL_isEngine_327 (by decide) ?_
          refine lv_iconst (v := (nI 0)) hx hb dL_isEngine_328 (by decide) ?_
          obtain ⟨w0, n0, h0, b0, i1, -, -, -, -, -, i2, -⟩ := qlg 0 (by omega)
          refine lk_start hB hP hD hS hW (v := (nI w0)) (log_ok (OSt_X hW) qk (by omega)) ((st_val (k := k) (i := 0) (w := 0) (OSt_X hW) qk (by omega) (by omega) (by omega)).trans i2) gL_isEngine_X7_start hl.1 (Nat.le_of_ble_eq_true rfl) dL_isEngine_329 (fun H locs hP hD hS => ?_)
          refine lv_bipush (v := (-6)) hx hb dL_isEngine_332 (by decide) ?_
          refine lv_icmp_ne (tgt := 341) hx hb dL_isEngine_334 (by decide) (fun _ => ?_) (fun q => absurd q (nI_m (n := w0) (by omega) (by decide)))
          refine lv_iconst (v := (nI 0)) hx hb dL_isEngine_341 (by decide) ?_
          refine lv_icmp_ne (tgt := 372) hx hb dL_isEngine_342 (by decide) (fun q => absurd (show (nI 0) = (nI 0) from congrArg nI (show 0 = 0 by omega)) q) (fun _ => ?_)
          refine lv_aload_n hx hb dL_isEngine_345 rfl (lv_at hl 3 rfl) ?_
          refine lv_iload_n hx hb dL_isEngine_346 rfl (lv_at hl 1 rfl) ?_
          refine lv_iconst (v := (nI 0)) hx hb dL_isEngine_347 (by decide) ?_
          refine lk_start hB hP hD hS hW (v := (-6)) (log_ok (OSt_X hW) qk (by omega)) (st_none (k := k) (i := e0 + e1 + e2 + e3) (OSt_X hW) qk (by omega) (by omega)) gL_isEngine_X7_start hl.1 (Nat.le_of_ble_eq_true rfl) dL_isEngine_348 (fun H locs hP hD hS => ?_)
          refine lv_bipush (v := (-6)) hx hb dL_isEngine_351 (by decide) ?_
          refine lv_icmp_ne (tgt := 372) hx hb dL_isEngine_353 (by decide) (fun q => absurd rfl q) (fun _ => ?_)
          refine lv_aload_n hx hb dL_isEngine_356 rfl (lv_at hl 3 rfl) ?_
          refine lv_bipush (v := (nI 10)) hx hb dL_isEngine_357 (by decide) ?_
          refine lv_iconst (v := (nI 0)) hx hb dL_isEngine_359 (by decide) ?_
          refine lk_start hB hP hD hS hW (v := (-6)) (log_ok (OSt_X hW) qk (by omega)) (st_none (k := k) (i := 10) (OSt_X hW) qk (by omega) (by omega)) gL_isEngine_X7_start hl.1 (Nat.le_of_ble_eq_true rfl) dL_isEngine_360 (fun H locs hP hD hS => ?_)
          refine lv_bipush (v := (-6)) hx hb dL_isEngine_363 (by decide) ?_
          refine lv_icmp_ne (tgt := 372) hx hb dL_isEngine_365 (by decide) (fun q => absurd rfl q) (fun _ => ?_)
          refine lv_iconst (v := (nI 1)) hx hb dL_isEngine_368 (by decide) ?_
          refine lv_goto (tgt := 373) hx hb dL_isEngine_369 (by decide) ?_
          exact jLc_ret hB hr hlocks hP hS dL_isEngine_373 hW
    · refine lk_engine hB hP hD hS hW (v := (nI sp)) ((en_v0 (OSt_X hW)).trans qsp) gL_isEngine_X7_engine hl.1 (Nat.le_of_ble_eq_true rfl) dL_isEngine_172 (fun H locs hP hD hS => ?_)
      refine lv_sipush (v := (nI 600)) hx hb dL_isEngine_175 (by decide) ?_
      refine lv_icmp_lt (tgt := 185) hx hb dL_isEngine_178 (by decide) (fun q => absurd q (show ¬ (nI sp) < (nI 600) from nI_nlt (b := 600) (a := sp) (by omega) (by omega))) (fun _ => ?_)
      refine lv_iconst (v := (nI 1)) hx hb dL_isEngine_181 (by decide) ?_
      refine lv_goto (tgt := 186) hx hb dL_isEngine_182 (by decide) ?_
      refine lv_icmp_ne (tgt := 281) hx hb dL_isEngine_186 (by decide) (fun q => absurd (show (nI ru) = (nI 1) from congrArg nI (show ru = 1 by omega)) q) (fun _ => ?_)
      refine lv_aload_n hx hb dL_isEngine_189 rfl (lv_at hl 3 rfl) ?_
      refine lv_iconst (v := (nI 1)) hx hb dL_isEngine_190 (by decide) ?_
      refine lk_engine hB hP hD hS hW (v := (nI he)) ((en_v1 (OSt_X hW)).trans qhe) gL_isEngine_X7_engine hl.1 (Nat.le_of_ble_eq_true rfl) dL_isEngine_191 (fun H locs hP hD hS => ?_)
      refine lv_aload_n hx hb dL_isEngine_194 rfl (lv_at hl 3 rfl) ?_
      refine lv_bipush (v := (nI 16)) hx hb dL_isEngine_195 (by decide) ?_
      refine lk_count hB hP hD hS hW (v := (nI g)) ((co_v16 (OSt_X hW)).trans qg) gL_isEngine_X7_count hl.1 (Nat.le_of_ble_eq_true rfl) dL_isEngine_197 (fun H locs hP hD hS => ?_)
      refine lv_icmp_gt (tgt := 281) hx hb dL_isEngine_200 (by decide) (fun q => absurd q (show ¬ (nI g) < (nI he) from nI_nlt (b := he) (a := g) (by omega) (by omega))) (fun _ => ?_)
      refine lv_aload_n hx hb dL_isEngine_203 rfl (lv_at hl 3 rfl) ?_
      refine lv_bipush (v := (nI 14)) hx hb dL_isEngine_204 (by decide) ?_
      refine lk_count hB hP hD hS hW (v := (nI (lost + fl))) ((co_v14 (OSt_X hW)).trans qnw) gL_isEngine_X7_count hl.1 (Nat.le_of_ble_eq_true rfl) dL_isEngine_206 (fun H locs hP hD hS => ?_)
      refine lv_aload_n hx hb dL_isEngine_209 rfl (lv_at hl 3 rfl) ?_
      refine lv_bipush (v := (nI 15)) hx hb dL_isEngine_210 (by decide) ?_
      refine lk_count hB hP hD hS hW (v := (nI lost)) ((co_v15 (OSt_X hW)).trans qlost) gL_isEngine_X7_count hl.1 (Nat.le_of_ble_eq_true rfl) dL_isEngine_212 (fun H locs hP hD hS => ?_)
      refine lv_iload_n hx hb dL_isEngine_215 rfl (lv_at hl 2 rfl) ?_
      refine lv_if_eq (tgt := 223) hx hb dL_isEngine_216 (by decide) (fun q => absurd q (show ¬ (nI 1) = (0 : Int32) from fun z => absurd ((nI_eq (a := 1) (b := 0) (by omega) (by omega)).mp z) (by omega))) (fun _ => ?_)
      refine lv_iconst (v := (nI 1)) hx hb dL_isEngine_219 (by decide) ?_
      refine lv_goto (tgt := 224) hx hb dL_isEngine_220 (by decide) ?_
      refine lv_iadd hx hb dL_isEngine_224 ?_
      refine W.eq (g2 := F0 m 225 ls [.int (nI (lost + 1)), .int (nI (lost + fl))]) (by rw [nI_add]) ?_
      refine lv_icmp_ne (tgt := 281) hx hb dL_isEngine_225 (by decide) (fun q => absurd (show (nI (lost + fl)) = (nI (lost + 1)) from congrArg nI (show lost + fl = lost + 1 by omega)) q) (fun _ => ?_)
      refine lv_aload_n hx hb dL_isEngine_228 rfl (lv_at hl 3 rfl) ?_
      refine lv_bipush (v := (nI 9)) hx hb dL_isEngine_229 (by decide) ?_
      rcases (show un = 0 ∨ un = 1 by omega) with hun | hun
      · refine lk_engine hB hP hD hS hW (v := (nI un)) ((en_v9 (OSt_X hW) (n01 qun (by omega))).trans qun) gL_isEngine_X7_engine hl.1 (Nat.le_of_ble_eq_true rfl) dL_isEngine_231 (fun H locs hP hD hS => ?_)
        refine lv_iconst (v := (nI 1)) hx hb dL_isEngine_234 (by decide) ?_
        refine lv_icmp_eq (tgt := 247) hx hb dL_isEngine_235 (by decide) (fun q => absurd q (show ¬ (nI un) = (nI 1) from fun z => absurd ((nI_eq (a := un) (b := 1) (by omega) (by omega)).mp z) (by omega))) (fun _ => ?_)
        refine lv_aload_n hx hb dL_isEngine_238 rfl (lv_at hl 3 rfl) ?_
        refine lv_bipush (v := (nI 10)) hx hb dL_isEngine_239 (by decide) ?_
        refine lk_engine hB hP hD hS hW (v := (nI 0)) (en_v10 (OSt_X hW) (qun.trans (congrArg nI (show un = 0 by omega)))) gL_isEngine_X7_engine hl.1 (Nat.le_of_ble_eq_true rfl) dL_isEngine_241 (fun H locs hP hD hS => ?_)
        refine lv_if_ne (tgt := 281) hx hb dL_isEngine_244 (by decide) (fun q => absurd (show (nI 0) = (0 : Int32) from congrArg nI (show 0 = 0 by omega)) q) (fun _ => ?_)
        refine lv_aload_n hx hb dL_isEngine_247 rfl (lv_at hl 3 rfl) ?_
        refine lv_bipush (v := (nI 8)) hx hb dL_isEngine_248 (by decide) ?_
        refine lk_engine hB hP hD hS hW (v := (nI ru)) ((en_v8 (OSt_X hW)).trans qru) gL_isEngine_X7_engine hl.1 (Nat.le_of_ble_eq_true rfl) dL_isEngine_250 (fun H locs hP hD hS => ?_)
        refine lv_if_eq (tgt := 277) hx hb dL_isEngine_253 (by decide) (fun q => absurd q (show ¬ (nI ru) = (0 : Int32) from fun z => absurd ((nI_eq (a := ru) (b := 0) (by omega) (by omega)).mp z) (by omega))) (fun _ => ?_)
        have hrn : ¬ r_X1_runs X = 0 := by rw [qru]; exact nI_ne0 (by omega) (by omega)
        refine lv_aload_n hx hb dL_isEngine_256 rfl (lv_at hl 3 rfl) ?_
        refine lk_until hB hP hD hS hW (BI_of hI) gL_isEngine_X7_untilRunning hl.1 (Nat.le_of_ble_eq_true rfl) dL_isEngine_257 (fun Z H locs hW hP hD hS => ?_)
        refine W.eq (g2 := F0 m 260 ls [.int (nI 0)]) (by rw [uP_run hrn 1]) ?_
        refine lv_if_ne (tgt := 281) hx hb dL_isEngine_260 (by decide) (fun q => absurd (show (nI 0) = (0 : Int32) from congrArg nI (show 0 = 0 by omega)) q) (fun _ => ?_)
        refine lv_aload_n hx hb dL_isEngine_263 rfl (lv_at hl 3 rfl) ?_
        refine lk_best hB hP hD hS hW (BI_of hI) gL_isEngine_X7_bestFuel hl.1 (Nat.le_of_ble_eq_true rfl) dL_isEngine_264 (fun Z H locs hW hP hD hS => ?_)
        refine W.eq (g2 := F0 m 267 ls [.int (nI 0)]) (by rw [bF_run hrn]) ?_
        refine lv_if_ne (tgt := 281) hx hb dL_isEngine_267 (by decide) (fun q => absurd (show (nI 0) = (0 : Int32) from congrArg nI (show 0 = 0 by omega)) q) (fun _ => ?_)
        refine lv_aload_n hx hb dL_isEngine_270 rfl (lv_at hl 3 rfl) ?_
        refine lk_least hB hP hD hS hW (BI_of hI) gL_isEngine_X7_leastBattery hl.1 (Nat.le_of_ble_eq_true rfl) dL_isEngine_271 (fun Z H locs hW hP hD hS => ?_)
        refine W.eq (g2 := F0 m 274 ls [.int (nI 0)]) (by rw [show lV X = nI 0 from lB_run (Z := fun _ => X) hrn]) ?_
        refine lv_if_ne (tgt := 281) hx hb dL_isEngine_274 (by decide) (fun q => absurd (show (nI 0) = (0 : Int32) from congrArg nI (show 0 = 0 by omega)) q) (fun _ => ?_)
        refine lv_iconst (v := (nI 1)) hx hb dL_isEngine_277 (by decide) ?_
        refine lv_goto (tgt := 282) hx hb dL_isEngine_278 (by decide) ?_
        refine lv_istore_n (lv' := [(2, .int (nI 1)), (3, .int (nI (e0 + e1 + e2 + e3))), (1, .int (nI 1)), (0, .ref (a 0))]) hx hb dL_isEngine_282 rfl hl (by decide) rfl (fun ls hl => ?_)
        refine lv_iload_n hx hb dL_isEngine_283 rfl (lv_at hl 0 rfl) ?_
        refine lv_if_eq (tgt := 372) hx hb dL_isEngine_284 (by decide) (fun q => absurd q (show ¬ (nI 1) = (0 : Int32) from fun z => absurd ((nI_eq (a := 1) (b := 0) (by omega) (by omega)).mp z) (by omega))) (fun _ => ?_)
        refine lv_aload_n hx hb dL_isEngine_287 rfl (lv_at hl 3 rfl) ?_
        refine lv_bipush (v := (nI 12)) hx hb dL_isEngine_288 (by decide) ?_
        refine lk_count hB hP hD hS hW (v := (nI hot)) ((co_v12 (OSt_X hW)).trans qhot) gL_isEngine_X7_count hl.1 (Nat.le_of_ble_eq_true rfl) dL_isEngine_290 (fun H locs hP hD hS => ?_)
        refine lv_aload_n hx hb dL_isEngine_293 rfl (lv_at hl 3 rfl) ?_
        refine lv_bipush (v := (nI 7)) hx hb dL_isEngine_294 (by decide) ?_
        refine lk_count hB hP hD hS hW (v := (nI t)) ((co_v7 (OSt_X hW)).trans qt) gL_isEngine_X7_count hl.1 (Nat.le_of_ble_eq_true rfl) dL_isEngine_296 (fun H locs hP hD hS => ?_)
        refine lv_icmp_gt (tgt := 372) hx hb dL_isEngine_299 (by decide) (fun q => absurd q (show ¬ (nI t) < (nI hot) from nI_nlt (b := hot) (a := t) (by omega) (by omega))) (fun _ => ?_)
        refine lv_aload_n hx hb dL_isEngine_302 rfl (lv_at hl 3 rfl) ?_
        refine lv_bipush (v := (nI 13)) hx hb dL_isEngine_303 (by decide) ?_
        refine lk_count hB hP hD hS hW (v := (nI run)) ((co_v13 (OSt_X hW)).trans qrun) gL_isEngine_X7_count hl.1 (Nat.le_of_ble_eq_true rfl) dL_isEngine_305 (fun H locs hP hD hS => ?_)
        refine lv_aload_n hx hb dL_isEngine_308 rfl (lv_at hl 3 rfl) ?_
        refine lv_bipush (v := (nI 7)) hx hb dL_isEngine_309 (by decide) ?_
        refine lk_count hB hP hD hS hW (v := (nI t)) ((co_v7 (OSt_X hW)).trans qt) gL_isEngine_X7_count hl.1 (Nat.le_of_ble_eq_true rfl) dL_isEngine_311 (fun H locs hP hD hS => ?_)
        refine lv_icmp_gt (tgt := 372) hx hb dL_isEngine_314 (by decide) (fun q => absurd q (show ¬ (nI t) < (nI run) from nI_nlt (b := run) (a := t) (by omega) (by omega))) (fun _ => ?_)
        rcases (show e0 + e1 + e2 + e3 = 0 ∨ 0 < e0 + e1 + e2 + e3 by omega) with hst | hst
        · refine lv_iload_n hx hb dL_isEngine_317 rfl (lv_at hl 1 rfl) ?_
          refine lv_if_ne (tgt := 325) hx hb dL_isEngine_318 (by decide) (fun q => absurd (show (nI (e0 + e1 + e2 + e3)) = (0 : Int32) from congrArg nI (show e0 + e1 + e2 + e3 = 0 by omega)) q) (fun _ => ?_)
          refine lv_iconst (v := (nI 1)) hx hb dL_isEngine_321 (by decide) ?_
          refine lv_goto (tgt := 326) hx hb dL_isEngine_322 (by decide) ?_
          refine lv_aload_n hx hb dL_isEngine_326 rfl (lv_at hl 3 rfl) ?_
          refine lv_iconst (v := (nI 0)) hx hb dL_isEngine_327 (by decide) ?_
          refine lv_iconst (v := (nI 0)) hx hb dL_isEngine_328 (by decide) ?_
          refine lk_start hB hP hD hS hW (v := (-6)) (log_ok (OSt_X hW) qk (by omega)) (st_none (k := k) (i := 0) (OSt_X hW) qk (by omega) (by omega)) gL_isEngine_X7_start hl.1 (Nat.le_of_ble_eq_true rfl) dL_isEngine_329 (fun H locs hP hD hS => ?_)
          refine lv_bipush (v := (-6)) hx hb dL_isEngine_332 (by decide) ?_
          refine lv_icmp_ne (tgt := 341) hx hb dL_isEngine_334 (by decide) (fun q => absurd rfl q) (fun _ => ?_)
          refine lv_iconst (v := (nI 1)) hx hb dL_isEngine_337 (by decide) ?_
          refine lv_goto (tgt := 342) hx hb dL_isEngine_338 (by decide) ?_
          refine lv_icmp_ne (tgt := 372) hx hb dL_isEngine_342 (by decide) (fun q => absurd (show (nI 1) = (nI 1) from congrArg nI (show 1 = 1 by omega)) q) (fun _ => ?_)
          refine lv_aload_n hx hb dL_isEngine_345 rfl (lv_at hl 3 rfl) ?_
          refine lv_iload_n hx hb dL_isEngine_346 rfl (lv_at hl 1 rfl) ?_
          refine lv_iconst (v := (nI 0)) hx hb dL_isEngine_347 (by decide) ?_
          refine lk_start hB hP hD hS hW (v := (-6)) (log_ok (OSt_X hW) qk (by omega)) (st_none (k := k) (i := e0 + e1 + e2 + e3) (OSt_X hW) qk (by omega) (by omega)) gL_isEngine_X7_start hl.1 (Nat.le_of_ble_eq_true rfl) dL_isEngine_348 (fun H locs hP hD hS => ?_)
          refine lv_bipush (v := (-6)) hx hb dL_isEngine_351 (by decide) ?_
          refine lv_icmp_ne (tgt := 372) hx hb dL_isEngine_353 (by decide) (fun q => absurd rfl q) (fun _ => ?_)
          refine lv_aload_n hx hb dL_isEngine_356 rfl (lv_at hl 3 rfl) ?_
          refine lv_bipush (v := (nI 10)) hx hb dL_isEngine_357 (by decide) ?_
          refine lv_iconst (v := (nI 0)) hx hb dL_isEngine_359 (by decide) ?_
          refine lk_start hB hP hD hS hW (v := (-6)) (log_ok (OSt_X hW) qk (by omega)) (st_none (k := k) (i := 10) (OSt_X hW) qk (by omega) (by omega)) gL_isEngine_X7_start hl.1 (Nat.le_of_ble_eq_true rfl) dL_isEngine_360 (fun H locs hP hD hS => ?_)
          refine lv_bipush (v := (-6)) hx hb dL_isEngine_363 (by decide) ?_
          refine lv_icmp_ne (tgt := 372) hx hb dL_isEngine_365 (by decide) (fun q => absurd rfl q) (fun _ => ?_)
          refine lv_iconst (v := (nI 1)) hx hb dL_isEngine_368 (by decide) ?_
          refine lv_goto (tgt := 373) hx hb dL_isEngine_369 (by decide) ?_
          exact jLc_ret hB hr hlocks hP hS dL_isEngine_373 hW
        · refine lv_iload_n hx hb dL_isEngine_317 rfl (lv_at hl 1 rfl) ?_
          refine lv_if_ne (tgt := 325) hx hb dL_isEngine_318 (by decide) (fun _ => ?_) (fun q => absurd q (show ¬ (nI (e0 + e1 + e2 + e3)) = (0 : Int32) from fun z => absurd ((nI_eq (a := e0 + e1 + e2 + e3) (b := 0) (by omega) (by omega)).mp z) (by omega)))
          refine lv_iconst (v := (nI 0)) hx hb dL_isEngine_325 (by decide) ?_
          refine lv_aload_n hx hb dL_isEngine_326 rfl (lv_at hl 3 rfl) ?_
          refine lv_iconst (v := (nI 0)) hx hb dL_isEngine_327 (by decide) ?_
          refine lv_iconst (v := (nI 0)) hx hb dL_isEngine_328 (by decide) ?_
          obtain ⟨w0, n0, h0, b0, i1, -, -, -, -, -, i2, -⟩ := qlg 0 (by omega)
          refine lk_start hB hP hD hS hW (v := (nI w0)) (log_ok (OSt_X hW) qk (by omega)) ((st_val (k := k) (i := 0) (w := 0) (OSt_X hW) qk (by omega) (by omega) (by omega)).trans i2) gL_isEngine_X7_start hl.1 (Nat.le_of_ble_eq_true rfl) dL_isEngine_329 (fun H locs hP hD hS => ?_)
          refine lv_bipush (v := (-6)) hx hb dL_isEngine_332 (by decide) ?_
          refine lv_icmp_ne (tgt := 341) hx hb dL_isEngine_334 (by decide) (fun _ => ?_) (fun q => absurd q (nI_m (n := w0) (by omega) (by decide)))
          refine lv_iconst (v := (nI 0)) hx hb dL_isEngine_341 (by decide) ?_
          refine lv_icmp_ne (tgt := 372) hx hb dL_isEngine_342 (by decide) (fun q => absurd (show (nI 0) = (nI 0) from congrArg nI (show 0 = 0 by omega)) q) (fun _ => ?_)
          refine lv_aload_n hx hb dL_isEngine_345 rfl (lv_at hl 3 rfl) ?_
          refine lv_iload_n hx hb dL_isEngine_346 rfl (lv_at hl 1 rfl) ?_
          refine lv_iconst (v := (nI 0)) hx hb dL_isEngine_347 (by decide) ?_
          refine lk_start hB hP hD hS hW (v := (-6)) (log_ok (OSt_X hW) qk (by omega)) (st_none (k := k) (i := e0 + e1 + e2 + e3) (OSt_X hW) qk (by omega) (by omega)) gL_isEngine_X7_start hl.1 (Nat.le_of_ble_eq_true rfl) dL_isEngine_348 (fun H locs hP hD hS => ?_)
          refine lv_bipush (v := (-6)) hx hb dL_isEngine_351 (by decide) ?_
          refine lv_icmp_ne (tgt := 372) hx hb dL_isEngine_353 (by decide) (fun q => absurd rfl q) (fun _ => ?_)
          refine lv_aload_n hx hb dL_isEngine_356 rfl (lv_at hl 3 rfl) ?_
          refine lv_bipush (v := (nI 10)) hx hb dL_isEngine_357 (by decide) ?_
          refine lv_iconst (v := (nI 0)) hx hb dL_isEngine_359 (by decide) ?_
          refine lk_start hB hP hD hS hW (v := (-6)) (log_ok (OSt_X hW) qk (by omega)) (st_none (k := k) (i := 10) (OSt_X hW) qk (by omega) (by omega)) gL_isEngine_X7_start hl.1 (Nat.le_of_ble_eq_true rfl) dL_isEngine_360 (fun H locs hP hD hS => ?_)
          refine lv_bipush (v := (-6)) hx hb dL_isEngine_363 (by decide) ?_
          refine lv_icmp_ne (tgt := 372) hx hb dL_isEngine_365 (by decide) (fun q => absurd rfl q) (fun _ => ?_)
          refine lv_iconst (v := (nI 1)) hx hb dL_isEngine_368 (by decide) ?_
          refine lv_goto (tgt := 373) hx hb dL_isEngine_369 (by decide) ?_
          exact jLc_ret hB hr hlocks hP hS dL_isEngine_373 hW
      · refine lk_engine hB hP hD hS hW (v := (nI un)) ((en_v9 (OSt_X hW) (n01 qun (by omega))).trans qun) gL_isEngine_X7_engine hl.1 (Nat.le_of_ble_eq_true rfl) dL_isEngine_231 (fun H locs hP hD hS => ?_)
        refine lv_iconst (v := (nI 1)) hx hb dL_isEngine_234 (by decide) ?_
        refine lv_icmp_eq (tgt := 247) hx hb dL_isEngine_235 (by decide) (fun _ => ?_) (fun q => absurd (show (nI un) = (nI 1) from congrArg nI (show un = 1 by omega)) q)
        refine lv_aload_n hx hb dL_isEngine_247 rfl (lv_at hl 3 rfl) ?_
        refine lv_bipush (v := (nI 8)) hx hb dL_isEngine_248 (by decide) ?_
        refine lk_engine hB hP hD hS hW (v := (nI ru)) ((en_v8 (OSt_X hW)).trans qru) gL_isEngine_X7_engine hl.1 (Nat.le_of_ble_eq_true rfl) dL_isEngine_250 (fun H locs hP hD hS => ?_)
        refine lv_if_eq (tgt := 277) hx hb dL_isEngine_253 (by decide) (fun q => absurd q (show ¬ (nI ru) = (0 : Int32) from fun z => absurd ((nI_eq (a := ru) (b := 0) (by omega) (by omega)).mp z) (by omega))) (fun _ => ?_)
        have hrn : ¬ r_X1_runs X = 0 := by rw [qru]; exact nI_ne0 (by omega) (by omega)
        refine lv_aload_n hx hb dL_isEngine_256 rfl (lv_at hl 3 rfl) ?_
        refine lk_until hB hP hD hS hW (BI_of hI) gL_isEngine_X7_untilRunning hl.1 (Nat.le_of_ble_eq_true rfl) dL_isEngine_257 (fun Z H locs hW hP hD hS => ?_)
        refine W.eq (g2 := F0 m 260 ls [.int (nI 0)]) (by rw [uP_run hrn 1]) ?_
        refine lv_if_ne (tgt := 281) hx hb dL_isEngine_260 (by decide) (fun q => absurd (show (nI 0) = (0 : Int32) from congrArg nI (show 0 = 0 by omega)) q) (fun _ => ?_)
        refine lv_aload_n hx hb dL_isEngine_263 rfl (lv_at hl 3 rfl) ?_
        refine lk_best hB hP hD hS hW (BI_of hI) gL_isEngine_X7_bestFuel hl.1 (Nat.le_of_ble_eq_true rfl) dL_isEngine_264 (fun Z H locs hW hP hD hS => ?_)
        refine W.eq (g2 := F0 m 267 ls [.int (nI 0)]) (by rw [bF_run hrn]) ?_
        refine lv_if_ne (tgt := 281) hx hb dL_isEngine_267 (by decide) (fun q => absurd (show (nI 0) = (0 : Int32) from congrArg nI (show 0 = 0 by omega)) q) (fun _ => ?_)
        refine lv_aload_n hx hb dL_isEngine_270 rfl (lv_at hl 3 rfl) ?_
        refine lk_least hB hP hD hS hW (BI_of hI) gL_isEngine_X7_leastBattery hl.1 (Nat.le_of_ble_eq_true rfl) dL_isEngine_271 (fun Z H locs hW hP hD hS => ?_)
        refine W.eq (g2 := F0 m 274 ls [.int (nI 0)]) (by rw [show lV X = nI 0 from lB_run (Z := fun _ => X) hrn]) ?_
        refine lv_if_ne (tgt := 281) hx hb dL_isEngine_274 (by decide) (fun q => absurd (show (nI 0) = (0 : Int32) from congrArg nI (show 0 = 0 by omega)) q) (fun _ => ?_)
        refine lv_iconst (v := (nI 1)) hx hb dL_isEngine_277 (by decide) ?_
        refine lv_goto (tgt := 282) hx hb dL_isEngine_278 (by decide) ?_
        refine lv_istore_n (lv' := [(2, .int (nI 1)), (3, .int (nI (e0 + e1 + e2 + e3))), (1, .int (nI 1)), (0, .ref (a 0))]) hx hb dL_isEngine_282 rfl hl (by decide) rfl (fun ls hl => ?_)
        refine lv_iload_n hx hb dL_isEngine_283 rfl (lv_at hl 0 rfl) ?_
        refine lv_if_eq (tgt := 372) hx hb dL_isEngine_284 (by decide) (fun q => absurd q (show ¬ (nI 1) = (0 : Int32) from fun z => absurd ((nI_eq (a := 1) (b := 0) (by omega) (by omega)).mp z) (by omega))) (fun _ => ?_)
        refine lv_aload_n hx hb dL_isEngine_287 rfl (lv_at hl 3 rfl) ?_
        refine lv_bipush (v := (nI 12)) hx hb dL_isEngine_288 (by decide) ?_
        refine lk_count hB hP hD hS hW (v := (nI hot)) ((co_v12 (OSt_X hW)).trans qhot) gL_isEngine_X7_count hl.1 (Nat.le_of_ble_eq_true rfl) dL_isEngine_290 (fun H locs hP hD hS => ?_)
        refine lv_aload_n hx hb dL_isEngine_293 rfl (lv_at hl 3 rfl) ?_
        refine lv_bipush (v := (nI 7)) hx hb dL_isEngine_294 (by decide) ?_
        refine lk_count hB hP hD hS hW (v := (nI t)) ((co_v7 (OSt_X hW)).trans qt) gL_isEngine_X7_count hl.1 (Nat.le_of_ble_eq_true rfl) dL_isEngine_296 (fun H locs hP hD hS => ?_)
        refine lv_icmp_gt (tgt := 372) hx hb dL_isEngine_299 (by decide) (fun q => absurd q (show ¬ (nI t) < (nI hot) from nI_nlt (b := hot) (a := t) (by omega) (by omega))) (fun _ => ?_)
        refine lv_aload_n hx hb dL_isEngine_302 rfl (lv_at hl 3 rfl) ?_
        refine lv_bipush (v := (nI 13)) hx hb dL_isEngine_303 (by decide) ?_
        refine lk_count hB hP hD hS hW (v := (nI run)) ((co_v13 (OSt_X hW)).trans qrun) gL_isEngine_X7_count hl.1 (Nat.le_of_ble_eq_true rfl) dL_isEngine_305 (fun H locs hP hD hS => ?_)
        refine lv_aload_n hx hb dL_isEngine_308 rfl (lv_at hl 3 rfl) ?_
        refine lv_bipush (v := (nI 7)) hx hb dL_isEngine_309 (by decide) ?_
        refine lk_count hB hP hD hS hW (v := (nI t)) ((co_v7 (OSt_X hW)).trans qt) gL_isEngine_X7_count hl.1 (Nat.le_of_ble_eq_true rfl) dL_isEngine_311 (fun H locs hP hD hS => ?_)
        refine lv_icmp_gt (tgt := 372) hx hb dL_isEngine_314 (by decide) (fun q => absurd q (show ¬ (nI t) < (nI run) from nI_nlt (b := run) (a := t) (by omega) (by omega))) (fun _ => ?_)
        rcases (show e0 + e1 + e2 + e3 = 0 ∨ 0 < e0 + e1 + e2 + e3 by omega) with hst | hst
        · refine lv_iload_n hx hb dL_isEngine_317 rfl (lv_at hl 1 rfl) ?_
          refine lv_if_ne (tgt := 325) hx hb dL_isEngine_318 (by decide) (fun q => absurd (show (nI (e0 + e1 + e2 + e3)) = (0 : Int32) from congrArg nI (show e0 + e1 + e2 + e3 = 0 by omega)) q) (fun _ => ?_)
          refine lv_iconst (v := (nI 1)) hx hb dL_isEngine_321 (by decide) ?_
          refine lv_goto (tgt := 326) hx hb dL_isEngine_322 (by decide) ?_
          refine lv_aload_n hx hb dL_isEngine_326 rfl (lv_at hl 3 rfl) ?_
          refine lv_iconst (v := (nI 0)) hx hb dL_isEngine_327 (by decide) ?_
          refine lv_iconst (v := (nI 0)) hx hb dL_isEngine_328 (by decide) ?_
          refine lk_start hB hP hD hS hW (v := (-6)) (log_ok (OSt_X hW) qk (by omega)) (st_none (k := k) (i := 0) (OSt_X hW) qk (by omega) (by omega)) gL_isEngine_X7_start hl.1 (Nat.le_of_ble_eq_true rfl) dL_isEngine_329 (fun H locs hP hD hS => ?_)
          refine lv_bipush (v := (-6)) hx hb dL_isEngine_332 (by decide) ?_
          refine lv_icmp_ne (tgt := 341) hx hb dL_isEngine_334 (by decide) (fun q => absurd rfl q) (fun _ => ?_)
          refine lv_iconst (v := (nI 1)) hx hb dL_isEngine_337 (by decide) ?_
          refine lv_goto (tgt := 342) hx hb dL_isEngine_338 (by decide) ?_
          refine lv_icmp_ne (tgt := 372) hx hb dL_isEngine_342 (by decide) (fun q => absurd (show (nI 1) = (nI 1) from congrArg nI (show 1 = 1 by omega)) q) (fun _ => ?_)
          refine lv_aload_n hx hb dL_isEngine_345 rfl (lv_at hl 3 rfl) ?_
          refine lv_iload_n hx hb dL_isEngine_346 rfl (lv_at hl 1 rfl) ?_
          refine lv_iconst (v := (nI 0)) hx hb dL_isEngine_347 (by decide) ?_
          refine lk_start hB hP hD hS hW (v := (-6)) (log_ok (OSt_X hW) qk (by omega)) (st_none (k := k) (i := e0 + e1 + e2 + e3) (OSt_X hW) qk (by omega) (by omega)) gL_isEngine_X7_start hl.1 (Nat.le_of_ble_eq_true rfl) dL_isEngine_348 (fun H locs hP hD hS => ?_)
          refine lv_bipush (v := (-6)) hx hb dL_isEngine_351 (by decide) ?_
          refine lv_icmp_ne (tgt := 372) hx hb dL_isEngine_353 (by decide) (fun q => absurd rfl q) (fun _ => ?_)
          refine lv_aload_n hx hb dL_isEngine_356 rfl (lv_at hl 3 rfl) ?_
          refine lv_bipush (v := (nI 10)) hx hb dL_isEngine_357 (by decide) ?_
          refine lv_iconst (v := (nI 0)) hx hb dL_isEngine_359 (by decide) ?_
          refine lk_start hB hP hD hS hW (v := (-6)) (log_ok (OSt_X hW) qk (by omega)) (st_none (k := k) (i := 10) (OSt_X hW) qk (by omega) (by omega)) gL_isEngine_X7_start hl.1 (Nat.le_of_ble_eq_true rfl) dL_isEngine_360 (fun H locs hP hD hS => ?_)
          refine lv_bipush (v := (-6)) hx hb dL_isEngine_363 (by decide) ?_
          refine lv_icmp_ne (tgt := 372) hx hb dL_isEngine_365 (by decide) (fun q => absurd rfl q) (fun _ => ?_)
          refine lv_iconst (v := (nI 1)) hx hb dL_isEngine_368 (by decide) ?_
          refine lv_goto (tgt := 373) hx hb dL_isEngine_369 (by decide) ?_
          exact jLc_ret hB hr hlocks hP hS dL_isEngine_373 hW
        · refine lv_iload_n hx hb dL_isEngine_317 rfl (lv_at hl 1 rfl) ?_
          refine lv_if_ne (tgt := 325) hx hb dL_isEngine_318 (by decide) (fun _ => ?_) (fun q => absurd q (show ¬ (nI (e0 + e1 + e2 + e3)) = (0 : Int32) from fun z => absurd ((nI_eq (a := e0 + e1 + e2 + e3) (b := 0) (by omega) (by omega)).mp z) (by omega)))
          refine lv_iconst (v := (nI 0)) hx hb dL_isEngine_325 (by decide) ?_
          refine lv_aload_n hx hb dL_isEngine_326 rfl (lv_at hl 3 rfl) ?_
          refine lv_iconst (v := (nI 0)) hx hb dL_isEngine_327 (by decide) ?_
          refine lv_iconst (v := (nI 0)) hx hb dL_isEngine_328 (by decide) ?_
          obtain ⟨w0, n0, h0, b0, i1, -, -, -, -, -, i2, -⟩ := qlg 0 (by omega)
          refine lk_start hB hP hD hS hW (v := (nI w0)) (log_ok (OSt_X hW) qk (by omega)) ((st_val (k := k) (i := 0) (w := 0) (OSt_X hW) qk (by omega) (by omega) (by omega)).trans i2) gL_isEngine_X7_start hl.1 (Nat.le_of_ble_eq_true rfl) dL_isEngine_329 (fun H locs hP hD hS => ?_)
          refine lv_bipush (v := (-6)) hx hb dL_isEngine_332 (by decide) ?_
          refine lv_icmp_ne (tgt := 341) hx hb dL_isEngine_334 (by decide) (fun _ => ?_) (fun q => absurd q (nI_m (n := w0) (by omega) (by decide)))
          refine lv_iconst (v := (nI 0)) hx hb dL_isEngine_341 (by decide) ?_
          refine lv_icmp_ne (tgt := 372) hx hb dL_isEngine_342 (by decide) (fun q => absurd (show (nI 0) = (nI 0) from congrArg nI (show 0 = 0 by omega)) q) (fun _ => ?_)
          refine lv_aload_n hx hb dL_isEngine_345 rfl (lv_at hl 3 rfl) ?_
          refine lv_iload_n hx hb dL_isEngine_346 rfl (lv_at hl 1 rfl) ?_
          refine lv_iconst (v := (nI 0)) hx hb dL_isEngine_347 (by decide) ?_
          refine lk_start hB hP hD hS hW (v := (-6)) (log_ok (OSt_X hW) qk (by omega)) (st_none (k := k) (i := e0 + e1 + e2 + e3) (OSt_X hW) qk (by omega) (by omega)) gL_isEngine_X7_start hl.1 (Nat.le_of_ble_eq_true rfl) dL_isEngine_348 (fun H locs hP hD hS => ?_)
          refine lv_bipush (v := (-6)) hx hb dL_isEngine_351 (by decide) ?_
          refine lv_icmp_ne (tgt := 372) hx hb dL_isEngine_353 (by decide) (fun q => absurd rfl q) (fun _ => ?_)
          refine lv_aload_n hx hb dL_isEngine_356 rfl (lv_at hl 3 rfl) ?_
          refine lv_bipush (v := (nI 10)) hx hb dL_isEngine_357 (by decide) ?_
          refine lv_iconst (v := (nI 0)) hx hb dL_isEngine_359 (by decide) ?_
          refine lk_start hB hP hD hS hW (v := (-6)) (log_ok (OSt_X hW) qk (by omega)) (st_none (k := k) (i := 10) (OSt_X hW) qk (by omega) (by omega)) gL_isEngine_X7_start hl.1 (Nat.le_of_ble_eq_true rfl) dL_isEngine_360 (fun H locs hP hD hS => ?_)
          refine lv_bipush (v := (-6)) hx hb dL_isEngine_363 (by decide) ?_
          refine lv_icmp_ne (tgt := 372) hx hb dL_isEngine_365 (by decide) (fun q => absurd rfl q) (fun _ => ?_)
          refine lv_iconst (v := (nI 1)) hx hb dL_isEngine_368 (by decide) ?_
          refine lv_goto (tgt := 373) hx hb dL_isEngine_369 (by decide) ?_
          exact jLc_ret hB hr hlocks hP hS dL_isEngine_373 hW
