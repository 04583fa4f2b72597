section LW
variable {p : Program} {l : Launch} {e : Env} {s : State} {m : MethodId} {below : List Frame} {meth : Method} {c : Code} {H : Heap} {locs : List Loc} {cells slots : Nat} {Q : State → Prop} {ls : Array Slot} {b L i o k : Nat} {xs : Nat → Int32} {D : va_G} {y : Nat → ClassId} {A : Nat → Prop} {a : Nat → Nat} {bb : Nat → Nat → Nat} {a' : Nat → Nat} {T : Nat → Nat → Int32} {Z : Nat → Nat → Nat → Int32} {Y : Nat → Nat → Int32}

set_option maxHeartbeats 4000000 in
set_option maxRecDepth 20000 in
theorem lw_c0 (h : LH p s m c b L xs D y A) (hP : va_P D vwCl ([jetW y a bb T Z, modW y a' Y] : List va_W).flatten H) (hD : va_D A ([jetW y a bb T Z, modW y a' Y] : List va_W).flatten) (hS : va_S A s.heap H locs) (hl : lv_has ls 4 [(3, .int (nI i)), (2, .ref (a' 0)), (1, .ref (a 0)), (0, .ref b)]) (hi : i + 3 ≤ L) (hJ : JR o k T Z Y) (hcr : cells ≤ room_1.cells ∧ slots ≤ room_1.slots) (kk : LK p l e s m below meth c b D y A a bb a' cells slots Q ls) : W p l e room_1 s m #[Value.ref b] below meth c H locs cells slots Q (F0 m 132 ls []) := by
  obtain ⟨hx, hb, hml, hown, hts, hE, hZ, hA, hX, hbl, hbA, hL, hcl⟩ := h
  refine lv_aload_n hx hb dL_law_132 rfl (lv_at hl 2 rfl) ?_
  refine lv_aload_n hx hb dL_law_133 rfl (lv_at hl 3 rfl) ?_
  refine lv_iload_n hx hb dL_law_134 rfl (lv_at hl 0 rfl) ?_
  refine lv_iconst (v := 1) hx hb dL_law_135 (by decide) ?_
  refine lv_iadd hx hb dL_law_136 ?_
  refine va_sld hx hb hX hbl hbA hS (lw_in1 hi hL) dL_law_137 ?_
  refine lv_aload_n hx hb dL_law_138 rfl (lv_at hl 3 rfl) ?_
  refine lv_iload_n hx hb dL_law_139 rfl (lv_at hl 0 rfl) ?_
  refine lv_iconst (v := 2) hx hb dL_law_140 (by decide) ?_
  refine lv_iadd hx hb dL_law_141 ?_
  refine va_sld hx hb hX hbl hbA hS (lw_in2 hi hL) dL_law_142 ?_
  refine jVi (n := 2) (is := [0]) (bs' := [jetW y a bb (sv 1 T (m_X7_set_T_1 T (xs (nI i + 1).toNatClampNeg) (xs (nI i + 2).toNatClampNeg))) (m_X7_set_Z Z ((o + k) % 6) (xs (nI i + 1).toNatClampNeg) (xs (nI i + 2).toNatClampNeg)), modW y a' Y]) hx hb hml hown hts hE hZ hA hP hD hS ((ct_X7_set l D y a bb T Z o k ((o + k) % 6) (xs (nI i + 1).toNatClampNeg) (xs (nI i + 2).toNatClampNeg) hJ.2.2.1.2.2.1 hJ.2.2.1.2.2.2.1 hJ.2.2.1.1 hJ.2.2.1.2.1 rfl hJ.2.1).pack (w := jetW y a bb T Z) (w' := jetW y a bb (sv 1 T (m_X7_set_T_1 T (xs (nI i + 1).toNatClampNeg) (xs (nI i + 2).toNatClampNeg))) (m_X7_set_Z Z ((o + k) % 6) (xs (nI i + 1).toNatClampNeg) (xs (nI i + 2).toNatClampNeg))) rfl rfl) rfl (by decide +kernel) (jetW_fst _ _ _ _ _ _ _) rfl gL_law_X7_set rfl (by decide +kernel) ⟨by decide, by decide⟩ ⟨rfl, rfl⟩ (kb := 0) rfl (q0 := 0) (ci := 7) rfl rfl rfl rfl hl.1 rfl (Nat.le_of_ble_eq_true rfl) hcr dL_law_143 (fun H locs hP hD hS => ?_)
  refine lv_aload_n hx hb dL_law_146 rfl (lv_at hl 1 rfl) ?_
  refine lv_aload_n hx hb dL_law_147 rfl (lv_at hl 3 rfl) ?_
  refine lv_iload_n hx hb dL_law_148 rfl (lv_at hl 0 rfl) ?_
  refine lv_iconst (v := 1) hx hb dL_law_149 (by decide) ?_
  refine lv_iadd hx hb dL_law_150 ?_
  refine va_sld hx hb hX hbl hbA hS (lw_in1 hi hL) dL_law_151 ?_
  refine lv_aload_n hx hb dL_law_152 rfl (lv_at hl 3 rfl) ?_
  refine lv_iload_n hx hb dL_law_153 rfl (lv_at hl 0 rfl) ?_
  refine lv_iconst (v := 2) hx hb dL_law_154 (by decide) ?_
  refine lv_iadd hx hb dL_law_155 ?_
  refine va_sld hx hb hX hbl hbA hS (lw_in2 hi hL) dL_law_156 ?_
  refine jVi (n := 2) (is := [1]) (bs' := [jetW y a bb (sv 1 T (m_X7_set_T_1 T (xs (nI i + 1).toNatClampNeg) (xs (nI i + 2).toNatClampNeg))) (m_X7_set_Z Z ((o + k) % 6) (xs (nI i + 1).toNatClampNeg) (xs (nI i + 2).toNatClampNeg)), modW y a' (sv 4 (sv 2 (sv 1 (sv 0 Y (m_X8_set_Y_0 Y (xs (nI i + 1).toNatClampNeg) (xs (nI i + 2).toNatClampNeg))) (m_X8_set_Y_1 Y (xs (nI i + 1).toNatClampNeg) (xs (nI i + 2).toNatClampNeg))) (m_X8_set_Y_2 Y (xs (nI i + 1).toNatClampNeg) (xs (nI i + 2).toNatClampNeg))) (m_X8_set_Y_4 Y (xs (nI i + 1).toNatClampNeg) (xs (nI i + 2).toNatClampNeg)))]) hx hb hml hown hts hE hZ hA hP hD hS (ct_X8_set l D y a' Y  (xs (nI i + 1).toNatClampNeg) (xs (nI i + 2).toNatClampNeg) (JR_st hJ)) rfl (by decide +kernel) (modW_fst _ _ _ _) rfl gL_law_X8_set rfl (by decide +kernel) ⟨by decide, by decide⟩ ⟨rfl, rfl⟩ (kb := 1) rfl (q0 := 0) (ci := 8) rfl rfl rfl rfl hl.1 rfl (Nat.le_of_ble_eq_true rfl) hcr dL_law_157 (fun H locs hP hD hS => ?_)
  obtain ⟨heq, o1, k1, hJ1⟩ := jr_set hJ rfl (xs (nI i + 1).toNatClampNeg) (xs (nI i + 2).toNatClampNeg)
  exact lv_icmp_eq (tgt := 627) hx hb dL_law_160 (by decide) (fun _ => kk o1 k1 _ _ _ H locs hJ1 hP hD hS) (fun q => absurd heq q)
set_option maxHeartbeats 4000000 in
set_option maxRecDepth 20000 in
theorem lw_c1 (h : LH p s m c b L xs D y A) (hP : va_P D vwCl ([jetW y a bb T Z, modW y a' Y] : List va_W).flatten H) (hD : va_D A ([jetW y a bb T Z, modW y a' Y] : List va_W).flatten) (hS : va_S A s.heap H locs) (hl : lv_has ls 4 [(3, .int (nI i)), (2, .ref (a' 0)), (1, .ref (a 0)), (0, .ref b)]) (hi : i + 3 ≤ L) (hJ : JR o k T Z Y) (hcr : cells ≤ room_1.cells ∧ slots ≤ room_1.slots) (kk : LK p l e s m below meth c b D y A a bb a' cells slots Q ls) : W p l e room_1 s m #[Value.ref b] below meth c H locs cells slots Q (F0 m 165 ls []) := by
  obtain ⟨hx, hb, hml, hown, hts, hE, hZ, hA, hX, hbl, hbA, hL, hcl⟩ := h
  by_cases h0 : (xs (nI i + 1).toNatClampNeg) = 0
  · have hp : (0 : Int32) = 0 ∨ (0 : Int32) = 1 := Or.inl rfl
    refine lv_aload_n hx hb dL_law_165 rfl (lv_at hl 2 rfl) ?_
    refine lv_aload_n hx hb dL_law_166 rfl (lv_at hl 3 rfl) ?_
    refine lv_iload_n hx hb dL_law_167 rfl (lv_at hl 0 rfl) ?_
    refine lv_iconst (v := 1) hx hb dL_law_168 (by decide) ?_
    refine lv_iadd hx hb dL_law_169 ?_
    refine va_sld hx hb hX hbl hbA hS (lw_in1 hi hL) dL_law_170 ?_
    refine lv_if_eq (tgt := 178) hx hb dL_law_171 (by decide) (fun _ => ?_) (fun q => absurd h0 q)
    refine lv_iconst (v := 0) hx hb dL_law_178 (by decide) ?_
    refine jVi (n := 1) (is := [0]) (bs' := [jetW y a bb (sv 1 T (m_X7_starter_T_1 T Z 0)) (m_X7_starter_Z Z ((o + k) % 6) 0), modW y a' Y]) hx hb hml hown hts hE hZ hA hP hD hS ((ct_X7_starter l D y a bb T Z o k ((o + k) % 6) 0 hJ.2.2.1.2.2.1 hJ.2.2.1.2.2.2.1 hJ.2.2.1.1 hJ.2.2.1.2.1 rfl hJ.2.1 hp).pack (w := jetW y a bb T Z) (w' := jetW y a bb (sv 1 T (m_X7_starter_T_1 T Z 0)) (m_X7_starter_Z Z ((o + k) % 6) 0)) rfl rfl) rfl (by decide +kernel) (jetW_fst _ _ _ _ _ _ _) rfl gL_law_X7_starter rfl (by decide +kernel) ⟨by decide, by decide⟩ ⟨rfl, rfl⟩ (kb := 0) rfl (q0 := 0) (ci := 7) rfl rfl rfl rfl hl.1 rfl (Nat.le_of_ble_eq_true rfl) hcr dL_law_179 (fun H locs hP hD hS => ?_)
    refine lv_aload_n hx hb dL_law_182 rfl (lv_at hl 1 rfl) ?_
    refine lv_aload_n hx hb dL_law_183 rfl (lv_at hl 3 rfl) ?_
    refine lv_iload_n hx hb dL_law_184 rfl (lv_at hl 0 rfl) ?_
    refine lv_iconst (v := 1) hx hb dL_law_185 (by decide) ?_
    refine lv_iadd hx hb dL_law_186 ?_
    refine va_sld hx hb hX hbl hbA hS (lw_in1 hi hL) dL_law_187 ?_
    refine lv_if_eq (tgt := 195) hx hb dL_law_188 (by decide) (fun _ => ?_) (fun q => absurd h0 q)
    refine lv_iconst (v := 0) hx hb dL_law_195 (by decide) ?_
    refine jVi (n := 1) (is := [1]) (bs' := [jetW y a bb (sv 1 T (m_X7_starter_T_1 T Z 0)) (m_X7_starter_Z Z ((o + k) % 6) 0), modW y a' (sv 4 (sv 2 (sv 1 (sv 0 Y (m_X8_starter_Y_0 Y 0)) (m_X8_starter_Y_1 Y 0)) (m_X8_starter_Y_2 Y 0)) (m_X8_starter_Y_4 Y 0))]) hx hb hml hown hts hE hZ hA hP hD hS (ct_X8_starter l D y a' Y  0 (JR_st hJ)) rfl (by decide +kernel) (modW_fst _ _ _ _) rfl gL_law_X8_starter rfl (by decide +kernel) ⟨by decide, by decide⟩ ⟨rfl, rfl⟩ (kb := 1) rfl (q0 := 0) (ci := 8) rfl rfl rfl rfl hl.1 rfl (Nat.le_of_ble_eq_true rfl) hcr dL_law_196 (fun H locs hP hD hS => ?_)
    obtain ⟨heq, o1, k1, hJ1⟩ := jr_starter hJ rfl 0 hp
    exact lv_icmp_eq (tgt := 627) hx hb dL_law_199 (by decide) (fun _ => kk o1 k1 _ _ _ H locs hJ1 hP hD hS) (fun q => absurd heq q)
  · have hp : (1 : Int32) = 0 ∨ (1 : Int32) = 1 := Or.inr rfl
    refine lv_aload_n hx hb dL_law_165 rfl (lv_at hl 2 rfl) ?_
    refine lv_aload_n hx hb dL_law_166 rfl (lv_at hl 3 rfl) ?_
    refine lv_iload_n hx hb dL_law_167 rfl (lv_at hl 0 rfl) ?_
    refine lv_iconst (v := 1) hx hb dL_law_168 (by decide) ?_
    refine lv_iadd hx hb dL_law_169 ?_
    refine va_sld hx hb hX hbl hbA hS (lw_in1 hi hL) dL_law_170 ?_
    refine lv_if_eq (tgt := 178) hx hb dL_law_171 (by decide) (fun q => absurd q h0) (fun _ => ?_)
    refine lv_iconst (v := 1) hx hb dL_law_174 (by decide) ?_
    refine lv_goto (tgt := 179) hx hb dL_law_175 (by decide) ?_
    refine jVi (n := 1) (is := [0]) (bs' := [jetW y a bb (sv 1 T (m_X7_starter_T_1 T Z 1)) (m_X7_starter_Z Z ((o + k) % 6) 1), modW y a' Y]) hx hb hml hown hts hE hZ hA hP hD hS ((ct_X7_starter l D y a bb T Z o k ((o + k) % 6) 1 hJ.2.2.1.2.2.1 hJ.2.2.1.2.2.2.1 hJ.2.2.1.1 hJ.2.2.1.2.1 rfl hJ.2.1 hp).pack (w := jetW y a bb T Z) (w' := jetW y a bb (sv 1 T (m_X7_starter_T_1 T Z 1)) (m_X7_starter_Z Z ((o + k) % 6) 1)) rfl rfl) rfl (by decide +kernel) (jetW_fst _ _ _ _ _ _ _) rfl gL_law_X7_starter rfl (by decide +kernel) ⟨by decide, by decide⟩ ⟨rfl, rfl⟩ (kb := 0) rfl (q0 := 0) (ci := 7) rfl rfl rfl rfl hl.1 rfl (Nat.le_of_ble_eq_true rfl) hcr dL_law_179 (fun H locs hP hD hS => ?_)
    refine lv_aload_n hx hb dL_law_182 rfl (lv_at hl 1 rfl) ?_
    refine lv_aload_n hx hb dL_law_183 rfl (lv_at hl 3 rfl) ?_
    refine lv_iload_n hx hb dL_law_184 rfl (lv_at hl 0 rfl) ?_
    refine lv_iconst (v := 1) hx hb dL_law_185 (by decide) ?_
    refine lv_iadd hx hb dL_law_186 ?_
    refine va_sld hx hb hX hbl hbA hS (lw_in1 hi hL) dL_law_187 ?_
    refine lv_if_eq (tgt := 195) hx hb dL_law_188 (by decide) (fun q => absurd q h0) (fun _ => ?_)
    refine lv_iconst (v := 1) hx hb dL_law_191 (by decide) ?_
    refine lv_goto (tgt := 196) hx hb dL_law_192 (by decide) ?_
    refine jVi (n := 1) (is := [1]) (bs' := [jetW y a bb (sv 1 T (m_X7_starter_T_1 T Z 1)) (m_X7_starter_Z Z ((o + k) % 6) 1), modW y a' (sv 4 (sv 2 (sv 1 (sv 0 Y (m_X8_starter_Y_0 Y 1)) (m_X8_starter_Y_1 Y 1)) (m_X8_starter_Y_2 Y 1)) (m_X8_starter_Y_4 Y 1))]) hx hb hml hown hts hE hZ hA hP hD hS (ct_X8_starter l D y a' Y  1 (JR_st hJ)) rfl (by decide +kernel) (modW_fst _ _ _ _) rfl gL_law_X8_starter rfl (by decide +kernel) ⟨by decide, by decide⟩ ⟨rfl, rfl⟩ (kb := 1) rfl (q0 := 0) (ci := 8) rfl rfl rfl rfl hl.1 rfl (Nat.le_of_ble_eq_true rfl) hcr dL_law_196 (fun H locs hP hD hS => ?_)
    obtain ⟨heq, o1, k1, hJ1⟩ := jr_starter hJ rfl 1 hp
    exact lv_icmp_eq (tgt := 627) hx hb dL_law_199 (by decide) (fun _ => kk o1 k1 _ _ _ H locs hJ1 hP hD hS) (fun q => absurd heq q)
set_option maxHeartbeats 4000000 in
set_option maxRecDepth 20000 in
theorem lw_c2 (h : LH p s m c b L xs D y A) (hP : va_P D vwCl ([jetW y a bb T Z, modW y a' Y] : List va_W).flatten H) (hD : va_D A ([jetW y a bb T Z, modW y a' Y] : List va_W).flatten) (hS : va_S A s.heap H locs) (hl : lv_has ls 4 [(3, .int (nI i)), (2, .ref (a' 0)), (1, .ref (a 0)), (0, .ref b)]) (hi : i + 3 ≤ L) (hJ : JR o k T Z Y) (hcr : cells ≤ room_1.cells ∧ slots ≤ room_1.slots) (kk : LK p l e s m below meth c b D y A a bb a' cells slots Q ls) : W p l e room_1 s m #[Value.ref b] below meth c H locs cells slots Q (F0 m 204 ls []) := by
  obtain ⟨hx, hb, hml, hown, hts, hE, hZ, hA, hX, hbl, hbA, hL, hcl⟩ := h
  by_cases h0 : (xs (nI i + 1).toNatClampNeg) = 0
  · have hp : (0 : Int32) = 0 ∨ (0 : Int32) = 1 := Or.inl rfl
    refine lv_aload_n hx hb dL_law_204 rfl (lv_at hl 2 rfl) ?_
    refine lv_aload_n hx hb dL_law_205 rfl (lv_at hl 3 rfl) ?_
    refine lv_iload_n hx hb dL_law_206 rfl (lv_at hl 0 rfl) ?_
    refine lv_iconst (v := 1) hx hb dL_law_207 (by decide) ?_
    refine lv_iadd hx hb dL_law_208 ?_
    refine va_sld hx hb hX hbl hbA hS (lw_in1 hi hL) dL_law_209 ?_
    refine lv_if_eq (tgt := 217) hx hb dL_law_210 (by decide) (fun _ => ?_) (fun q => absurd h0 q)
    refine lv_iconst (v := 0) hx hb dL_law_217 (by decide) ?_
    refine jVi (n := 1) (is := [0]) (bs' := [jetW y a bb (sv 1 T (m_X7_spark_T_1 T Z 0)) (m_X7_spark_Z Z ((o + k) % 6) 0), modW y a' Y]) hx hb hml hown hts hE hZ hA hP hD hS ((ct_X7_spark l D y a bb T Z o k ((o + k) % 6) 0 hJ.2.2.1.2.2.1 hJ.2.2.1.2.2.2.1 hJ.2.2.1.1 hJ.2.2.1.2.1 rfl hJ.2.1 hp).pack (w := jetW y a bb T Z) (w' := jetW y a bb (sv 1 T (m_X7_spark_T_1 T Z 0)) (m_X7_spark_Z Z ((o + k) % 6) 0)) rfl rfl) rfl (by decide +kernel) (jetW_fst _ _ _ _ _ _ _) rfl gL_law_X7_spark rfl (by decide +kernel) ⟨by decide, by decide⟩ ⟨rfl, rfl⟩ (kb := 0) rfl (q0 := 0) (ci := 7) rfl rfl rfl rfl hl.1 rfl (Nat.le_of_ble_eq_true rfl) hcr dL_law_218 (fun H locs hP hD hS => ?_)
    refine lv_aload_n hx hb dL_law_221 rfl (lv_at hl 1 rfl) ?_
    refine lv_aload_n hx hb dL_law_222 rfl (lv_at hl 3 rfl) ?_
    refine lv_iload_n hx hb dL_law_223 rfl (lv_at hl 0 rfl) ?_
    refine lv_iconst (v := 1) hx hb dL_law_224 (by decide) ?_
    refine lv_iadd hx hb dL_law_225 ?_
    refine va_sld hx hb hX hbl hbA hS (lw_in1 hi hL) dL_law_226 ?_
    refine lv_if_eq (tgt := 234) hx hb dL_law_227 (by decide) (fun _ => ?_) (fun q => absurd h0 q)
    refine lv_iconst (v := 0) hx hb dL_law_234 (by decide) ?_
    refine jVi (n := 1) (is := [1]) (bs' := [jetW y a bb (sv 1 T (m_X7_spark_T_1 T Z 0)) (m_X7_spark_Z Z ((o + k) % 6) 0), modW y a' (sv 4 (sv 2 (sv 1 (sv 0 Y (m_X8_spark_Y_0 Y 0)) (m_X8_spark_Y_1 Y 0)) (m_X8_spark_Y_2 Y 0)) (m_X8_spark_Y_4 Y 0))]) hx hb hml hown hts hE hZ hA hP hD hS (ct_X8_spark l D y a' Y  0 (JR_st hJ)) rfl (by decide +kernel) (modW_fst _ _ _ _) rfl gL_law_X8_spark rfl (by decide +kernel) ⟨by decide, by decide⟩ ⟨rfl, rfl⟩ (kb := 1) rfl (q0 := 0) (ci := 8) rfl rfl rfl rfl hl.1 rfl (Nat.le_of_ble_eq_true rfl) hcr dL_law_235 (fun H locs hP hD hS => ?_)
    obtain ⟨heq, o1, k1, hJ1⟩ := jr_spark hJ rfl 0 hp
    exact lv_icmp_eq (tgt := 627) hx hb dL_law_238 (by decide) (fun _ => kk o1 k1 _ _ _ H locs hJ1 hP hD hS) (fun q => absurd heq q)
  · have hp : (1 : Int32) = 0 ∨ (1 : Int32) = 1 := Or.inr rfl
    refine lv_aload_n hx hb dL_law_204 rfl (lv_at hl 2 rfl) ?_
    refine lv_aload_n hx hb dL_law_205 rfl (lv_at hl 3 rfl) ?_
    refine lv_iload_n hx hb dL_law_206 rfl (lv_at hl 0 rfl) ?_
    refine lv_iconst (v := 1) hx hb dL_law_207 (by decide) ?_
    refine lv_iadd hx hb dL_law_208 ?_
    refine va_sld hx hb hX hbl hbA hS (lw_in1 hi hL) dL_law_209 ?_
    refine lv_if_eq (tgt := 217) hx hb dL_law_210 (by decide) (fun q => absurd q h0) (fun _ => ?_)
    refine lv_iconst (v := 1) hx hb dL_law_213 (by decide) ?_
    refine lv_goto (tgt := 218) hx hb dL_law_214 (by decide) ?_
    refine jVi (n := 1) (is := [0]) (bs' := [jetW y a bb (sv 1 T (m_X7_spark_T_1 T Z 1)) (m_X7_spark_Z Z ((o + k) % 6) 1), modW y a' Y]) hx hb hml hown hts hE hZ hA hP hD hS ((ct_X7_spark l D y a bb T Z o k ((o + k) % 6) 1 hJ.2.2.1.2.2.1 hJ.2.2.1.2.2.2.1 hJ.2.2.1.1 hJ.2.2.1.2.1 rfl hJ.2.1 hp).pack (w := jetW y a bb T Z) (w' := jetW y a bb (sv 1 T (m_X7_spark_T_1 T Z 1)) (m_X7_spark_Z Z ((o + k) % 6) 1)) rfl rfl) rfl (by decide +kernel) (jetW_fst _ _ _ _ _ _ _) rfl gL_law_X7_spark rfl (by decide +kernel) ⟨by decide, by decide⟩ ⟨rfl, rfl⟩ (kb := 0) rfl (q0 := 0) (ci := 7) rfl rfl rfl rfl hl.1 rfl (Nat.le_of_ble_eq_true rfl) hcr dL_law_218 (fun H locs hP hD hS => ?_)
    refine lv_aload_n hx hb dL_law_221 rfl (lv_at hl 1 rfl) ?_
    refine lv_aload_n hx hb dL_law_222 rfl (lv_at hl 3 rfl) ?_
    refine lv_iload_n hx hb dL_law_223 rfl (lv_at hl 0 rfl) ?_
    refine lv_iconst (v := 1) hx hb dL_law_224 (by decide) ?_
    refine lv_iadd hx hb dL_law_225 ?_
    refine va_sld hx hb hX hbl hbA hS (lw_in1 hi hL) dL_law_226 ?_
    refine lv_if_eq (tgt := 234) hx hb dL_law_227 (by decide) (fun q => absurd q h0) (fun _ => ?_)
    refine lv_iconst (v := 1) hx hb dL_law_230 (by decide) ?_
    refine lv_goto (tgt := 235) hx hb dL_law_231 (by decide) ?_
    refine jVi (n := 1) (is := [1]) (bs' := [jetW y a bb (sv 1 T (m_X7_spark_T_1 T Z 1)) (m_X7_spark_Z Z ((o + k) % 6) 1), modW y a' (sv 4 (sv 2 (sv 1 (sv 0 Y (m_X8_spark_Y_0 Y 1)) (m_X8_spark_Y_1 Y 1)) (m_X8_spark_Y_2 Y 1)) (m_X8_spark_Y_4 Y 1))]) hx hb hml hown hts hE hZ hA hP hD hS (ct_X8_spark l D y a' Y  1 (JR_st hJ)) rfl (by decide +kernel) (modW_fst _ _ _ _) rfl gL_law_X8_spark rfl (by decide +kernel) ⟨by decide, by decide⟩ ⟨rfl, rfl⟩ (kb := 1) rfl (q0 := 0) (ci := 8) rfl rfl rfl rfl hl.1 rfl (Nat.le_of_ble_eq_true rfl) hcr dL_law_235 (fun H locs hP hD hS => ?_)
    obtain ⟨heq, o1, k1, hJ1⟩ := jr_spark hJ rfl 1 hp
    exact lv_icmp_eq (tgt := 627) hx hb dL_law_238 (by decide) (fun _ => kk o1 k1 _ _ _ H locs hJ1 hP hD hS) (fun q => absurd heq q)
set_option maxHeartbeats 4000000 in
set_option maxRecDepth 20000 in
theorem lw_c3 (h : LH p s m c b L xs D y A) (hP : va_P D vwCl ([jetW y a bb T Z, modW y a' Y] : List va_W).flatten H) (hD : va_D A ([jetW y a bb T Z, modW y a' Y] : List va_W).flatten) (hS : va_S A s.heap H locs) (hl : lv_has ls 4 [(3, .int (nI i)), (2, .ref (a' 0)), (1, .ref (a 0)), (0, .ref b)]) (hi : i + 3 ≤ L) (hJ : JR o k T Z Y) (hcr : cells ≤ room_1.cells ∧ slots ≤ room_1.slots) (kk : LK p l e s m below meth c b D y A a bb a' cells slots Q ls) : W p l e room_1 s m #[Value.ref b] below meth c H locs cells slots Q (F0 m 243 ls []) := by
  obtain ⟨hx, hb, hml, hown, hts, hE, hZ, hA, hX, hbl, hbA, hL, hcl⟩ := h
  refine lv_aload_n hx hb dL_law_243 rfl (lv_at hl 2 rfl) ?_
  refine lv_aload_n hx hb dL_law_244 rfl (lv_at hl 3 rfl) ?_
  refine lv_iload_n hx hb dL_law_245 rfl (lv_at hl 0 rfl) ?_
  refine lv_iconst (v := 1) hx hb dL_law_246 (by decide) ?_
  refine lv_iadd hx hb dL_law_247 ?_
  refine va_sld hx hb hX hbl hbA hS (lw_in1 hi hL) dL_law_248 ?_
  refine jVi (n := 1) (is := [0]) (bs' := [jetW y a bb (sv 1 T (m_X7_fuel_T_1 T (xs (nI i + 1).toNatClampNeg))) (m_X7_fuel_Z Z ((o + k) % 6) (xs (nI i + 1).toNatClampNeg)), modW y a' Y]) hx hb hml hown hts hE hZ hA hP hD hS ((ct_X7_fuel l D y a bb T Z o k ((o + k) % 6) (xs (nI i + 1).toNatClampNeg) hJ.2.2.1.2.2.1 hJ.2.2.1.2.2.2.1 hJ.2.2.1.1 hJ.2.2.1.2.1 rfl hJ.2.1).pack (w := jetW y a bb T Z) (w' := jetW y a bb (sv 1 T (m_X7_fuel_T_1 T (xs (nI i + 1).toNatClampNeg))) (m_X7_fuel_Z Z ((o + k) % 6) (xs (nI i + 1).toNatClampNeg))) rfl rfl) rfl (by decide +kernel) (jetW_fst _ _ _ _ _ _ _) rfl gL_law_X7_fuel rfl (by decide +kernel) ⟨by decide, by decide⟩ ⟨rfl, rfl⟩ (kb := 0) rfl (q0 := 0) (ci := 7) rfl rfl rfl rfl hl.1 rfl (Nat.le_of_ble_eq_true rfl) hcr dL_law_249 (fun H locs hP hD hS => ?_)
  refine lv_aload_n hx hb dL_law_252 rfl (lv_at hl 1 rfl) ?_
  refine lv_aload_n hx hb dL_law_253 rfl (lv_at hl 3 rfl) ?_
  refine lv_iload_n hx hb dL_law_254 rfl (lv_at hl 0 rfl) ?_
  refine lv_iconst (v := 1) hx hb dL_law_255 (by decide) ?_
  refine lv_iadd hx hb dL_law_256 ?_
  refine va_sld hx hb hX hbl hbA hS (lw_in1 hi hL) dL_law_257 ?_
  refine jVi (n := 1) (is := [1]) (bs' := [jetW y a bb (sv 1 T (m_X7_fuel_T_1 T (xs (nI i + 1).toNatClampNeg))) (m_X7_fuel_Z Z ((o + k) % 6) (xs (nI i + 1).toNatClampNeg)), modW y a' (sv 4 (sv 2 (sv 1 (sv 0 Y (m_X8_fuel_Y_0 Y (xs (nI i + 1).toNatClampNeg))) (m_X8_fuel_Y_1 Y (xs (nI i + 1).toNatClampNeg))) (m_X8_fuel_Y_2 Y (xs (nI i + 1).toNatClampNeg))) (m_X8_fuel_Y_4 Y (xs (nI i + 1).toNatClampNeg)))]) hx hb hml hown hts hE hZ hA hP hD hS (ct_X8_fuel l D y a' Y  (xs (nI i + 1).toNatClampNeg) (JR_st hJ)) rfl (by decide +kernel) (modW_fst _ _ _ _) rfl gL_law_X8_fuel rfl (by decide +kernel) ⟨by decide, by decide⟩ ⟨rfl, rfl⟩ (kb := 1) rfl (q0 := 0) (ci := 8) rfl rfl rfl rfl hl.1 rfl (Nat.le_of_ble_eq_true rfl) hcr dL_law_258 (fun H locs hP hD hS => ?_)
  obtain ⟨heq, o1, k1, hJ1⟩ := jr_fuel hJ rfl (xs (nI i + 1).toNatClampNeg)
  exact lv_icmp_eq (tgt := 627) hx hb dL_law_261 (by decide) (fun _ => kk o1 k1 _ _ _ H locs hJ1 hP hD hS) (fun q => absurd heq q)
set_option maxHeartbeats 4000000 in
set_option maxRecDepth 20000 in
theorem lw_c4 (h : LH p s m c b L xs D y A) (hP : va_P D vwCl ([jetW y a bb T Z, modW y a' Y] : List va_W).flatten H) (hD : va_D A ([jetW y a bb T Z, modW y a' Y] : List va_W).flatten) (hS : va_S A s.heap H locs) (hl : lv_has ls 4 [(3, .int (nI i)), (2, .ref (a' 0)), (1, .ref (a 0)), (0, .ref b)]) (hi : i + 3 ≤ L) (hJ : JR o k T Z Y) (hcr : cells ≤ room_1.cells ∧ slots ≤ room_1.slots) (kk : LK p l e s m below meth c b D y A a bb a' cells slots Q ls) : W p l e room_1 s m #[Value.ref b] below meth c H locs cells slots Q (F0 m 266 ls []) := by
  obtain ⟨hx, hb, hml, hown, hts, hE, hZ, hA, hX, hbl, hbA, hL, hcl⟩ := h
  refine lv_aload_n hx hb dL_law_266 rfl (lv_at hl 2 rfl) ?_
  refine jVi (n := 0) (is := [0]) (bs' := [jetW y a bb (sv 1 T (m_X7_drain_T_1 T Z)) (m_X7_drain_Z Z ((o + k) % 6)), modW y a' Y]) hx hb hml hown hts hE hZ hA hP hD hS ((ct_X7_drain l D y a bb T Z o k ((o + k) % 6) hJ.2.2.1.2.2.1 hJ.2.2.1.2.2.2.1 hJ.2.2.1.1 hJ.2.2.1.2.1 rfl hJ.2.1).pack (w := jetW y a bb T Z) (w' := jetW y a bb (sv 1 T (m_X7_drain_T_1 T Z)) (m_X7_drain_Z Z ((o + k) % 6))) rfl rfl) rfl (by decide +kernel) (jetW_fst _ _ _ _ _ _ _) rfl gL_law_X7_drain rfl (by decide +kernel) ⟨by decide, by decide⟩ ⟨rfl, rfl⟩ (kb := 0) rfl (q0 := 0) (ci := 7) rfl rfl rfl rfl hl.1 rfl (Nat.le_of_ble_eq_true rfl) hcr dL_law_267 (fun H locs hP hD hS => ?_)
  refine lv_aload_n hx hb dL_law_270 rfl (lv_at hl 1 rfl) ?_
  refine jVi (n := 0) (is := [1]) (bs' := [jetW y a bb (sv 1 T (m_X7_drain_T_1 T Z)) (m_X7_drain_Z Z ((o + k) % 6)), modW y a' (sv 4 (sv 2 (sv 1 (sv 0 Y (m_X8_drain_Y_0 Y)) (m_X8_drain_Y_1 Y)) (m_X8_drain_Y_2 Y)) (m_X8_drain_Y_4 Y))]) hx hb hml hown hts hE hZ hA hP hD hS (ct_X8_drain l D y a' Y (JR_st hJ)) rfl (by decide +kernel) (modW_fst _ _ _ _) rfl gL_law_X8_drain rfl (by decide +kernel) ⟨by decide, by decide⟩ ⟨rfl, rfl⟩ (kb := 1) rfl (q0 := 0) (ci := 8) rfl rfl rfl rfl hl.1 rfl (Nat.le_of_ble_eq_true rfl) hcr dL_law_271 (fun H locs hP hD hS => ?_)
  obtain ⟨heq, o1, k1, hJ1⟩ := jr_drain hJ rfl
  exact lv_icmp_eq (tgt := 627) hx hb dL_law_274 (by decide) (fun _ => kk o1 k1 _ _ _ H locs hJ1 hP hD hS) (fun q => absurd heq q)
set_option maxHeartbeats 4000000 in
set_option maxRecDepth 20000 in
theorem lw_c5 (h : LH p s m c b L xs D y A) (hP : va_P D vwCl ([jetW y a bb T Z, modW y a' Y] : List va_W).flatten H) (hD : va_D A ([jetW y a bb T Z, modW y a' Y] : List va_W).flatten) (hS : va_S A s.heap H locs) (hl : lv_has ls 4 [(3, .int (nI i)), (2, .ref (a' 0)), (1, .ref (a 0)), (0, .ref b)]) (hi : i + 3 ≤ L) (hJ : JR o k T Z Y) (hcr : cells ≤ room_1.cells ∧ slots ≤ room_1.slots) (kk : LK p l e s m below meth c b D y A a bb a' cells slots Q ls) : W p l e room_1 s m #[Value.ref b] below meth c H locs cells slots Q (F0 m 279 ls []) := by
  obtain ⟨hx, hb, hml, hown, hts, hE, hZ, hA, hX, hbl, hbA, hL, hcl⟩ := h
  refine lv_aload_n hx hb dL_law_279 rfl (lv_at hl 2 rfl) ?_
  refine lv_aload_n hx hb dL_law_280 rfl (lv_at hl 3 rfl) ?_
  refine lv_iload_n hx hb dL_law_281 rfl (lv_at hl 0 rfl) ?_
  refine lv_iconst (v := 1) hx hb dL_law_282 (by decide) ?_
  refine lv_iadd hx hb dL_law_283 ?_
  refine va_sld hx hb hX hbl hbA hS (lw_in1 hi hL) dL_law_284 ?_
  refine jVi (n := 1) (is := [0]) (bs' := [jetW y a bb (sv 1 T (m_X7_battery_T_1 T (xs (nI i + 1).toNatClampNeg))) (m_X7_battery_Z Z ((o + k) % 6) (xs (nI i + 1).toNatClampNeg)), modW y a' Y]) hx hb hml hown hts hE hZ hA hP hD hS ((ct_X7_battery l D y a bb T Z o k ((o + k) % 6) (xs (nI i + 1).toNatClampNeg) hJ.2.2.1.2.2.1 hJ.2.2.1.2.2.2.1 hJ.2.2.1.1 hJ.2.2.1.2.1 rfl hJ.2.1).pack (w := jetW y a bb T Z) (w' := jetW y a bb (sv 1 T (m_X7_battery_T_1 T (xs (nI i + 1).toNatClampNeg))) (m_X7_battery_Z Z ((o + k) % 6) (xs (nI i + 1).toNatClampNeg))) rfl rfl) rfl (by decide +kernel) (jetW_fst _ _ _ _ _ _ _) rfl gL_law_X7_battery rfl (by decide +kernel) ⟨by decide, by decide⟩ ⟨rfl, rfl⟩ (kb := 0) rfl (q0 := 0) (ci := 7) rfl rfl rfl rfl hl.1 rfl (Nat.le_of_ble_eq_true rfl) hcr dL_law_285 (fun H locs hP hD hS => ?_)
  refine lv_aload_n hx hb dL_law_288 rfl (lv_at hl 1 rfl) ?_
  refine lv_aload_n hx hb dL_law_289 rfl (lv_at hl 3 rfl) ?_
  refine lv_iload_n hx hb dL_law_290 rfl (lv_at hl 0 rfl) ?_
  refine lv_iconst (v := 1) hx hb dL_law_291 (by decide) ?_
  refine lv_iadd hx hb dL_law_292 ?_
  refine va_sld hx hb hX hbl hbA hS (lw_in1 hi hL) dL_law_293 ?_
  refine jVi (n := 1) (is := [1]) (bs' := [jetW y a bb (sv 1 T (m_X7_battery_T_1 T (xs (nI i + 1).toNatClampNeg))) (m_X7_battery_Z Z ((o + k) % 6) (xs (nI i + 1).toNatClampNeg)), modW y a' (sv 4 (sv 2 (sv 1 (sv 0 Y (m_X8_battery_Y_0 Y (xs (nI i + 1).toNatClampNeg))) (m_X8_battery_Y_1 Y (xs (nI i + 1).toNatClampNeg))) (m_X8_battery_Y_2 Y (xs (nI i + 1).toNatClampNeg))) (m_X8_battery_Y_4 Y (xs (nI i + 1).toNatClampNeg)))]) hx hb hml hown hts hE hZ hA hP hD hS (ct_X8_battery l D y a' Y  (xs (nI i + 1).toNatClampNeg) (JR_st hJ)) rfl (by decide +kernel) (modW_fst _ _ _ _) rfl gL_law_X8_battery rfl (by decide +kernel) ⟨by decide, by decide⟩ ⟨rfl, rfl⟩ (kb := 1) rfl (q0 := 0) (ci := 8) rfl rfl rfl rfl hl.1 rfl (Nat.le_of_ble_eq_true rfl) hcr dL_law_294 (fun H locs hP hD hS => ?_)
  obtain ⟨heq, o1, k1, hJ1⟩ := jr_battery hJ rfl (xs (nI i + 1).toNatClampNeg)
  exact lv_icmp_eq (tgt := 627) hx hb dL_law_297 (by decide) (fun _ => kk o1 k1 _ _ _ H locs hJ1 hP hD hS) (fun q => absurd heq q)
set_option maxHeartbeats 4000000 in
set_option maxRecDepth 20000 in
theorem lw_c6 (h : LH p s m c b L xs D y A) (hP : va_P D vwCl ([jetW y a bb T Z, modW y a' Y] : List va_W).flatten H) (hD : va_D A ([jetW y a bb T Z, modW y a' Y] : List va_W).flatten) (hS : va_S A s.heap H locs) (hl : lv_has ls 4 [(3, .int (nI i)), (2, .ref (a' 0)), (1, .ref (a 0)), (0, .ref b)]) (hi : i + 3 ≤ L) (hJ : JR o k T Z Y) (hcr : cells ≤ room_1.cells ∧ slots ≤ room_1.slots) (kk : LK p l e s m below meth c b D y A a bb a' cells slots Q ls) : W p l e room_1 s m #[Value.ref b] below meth c H locs cells slots Q (F0 m 302 ls []) := by
  obtain ⟨hx, hb, hml, hown, hts, hE, hZ, hA, hX, hbl, hbA, hL, hcl⟩ := h
  refine lv_aload_n hx hb dL_law_302 rfl (lv_at hl 2 rfl) ?_
  refine lv_aload_n hx hb dL_law_303 rfl (lv_at hl 3 rfl) ?_
  refine lv_iload_n hx hb dL_law_304 rfl (lv_at hl 0 rfl) ?_
  refine lv_iconst (v := 1) hx hb dL_law_305 (by decide) ?_
  refine lv_iadd hx hb dL_law_306 ?_
  refine va_sld hx hb hX hbl hbA hS (lw_in1 hi hL) dL_law_307 ?_
  refine jVi (n := 1) (is := [0]) (bs' := [jetW y a bb (sv 1 T (m_X7_tick_T_1 T Z (xs (nI i + 1).toNatClampNeg))) (m_X7_tick_Z Z ((o + k) % 6) (xs (nI i + 1).toNatClampNeg)), modW y a' Y]) hx hb hml hown hts hE hZ hA hP hD hS ((ct_X7_tick l D y a bb T Z o k ((o + k) % 6) (xs (nI i + 1).toNatClampNeg) hJ.2.2.1.2.2.1 hJ.2.2.1.2.2.2.1 hJ.2.2.1.1 hJ.2.2.1.2.1 rfl hJ.2.1).pack (w := jetW y a bb T Z) (w' := jetW y a bb (sv 1 T (m_X7_tick_T_1 T Z (xs (nI i + 1).toNatClampNeg))) (m_X7_tick_Z Z ((o + k) % 6) (xs (nI i + 1).toNatClampNeg))) rfl rfl) rfl (by decide +kernel) (jetW_fst _ _ _ _ _ _ _) rfl gL_law_X7_tick rfl (by decide +kernel) ⟨by decide, by decide⟩ ⟨rfl, rfl⟩ (kb := 0) rfl (q0 := 0) (ci := 7) rfl rfl rfl rfl hl.1 rfl (Nat.le_of_ble_eq_true rfl) hcr dL_law_308 (fun H locs hP hD hS => ?_)
  refine lv_aload_n hx hb dL_law_311 rfl (lv_at hl 1 rfl) ?_
  refine lv_aload_n hx hb dL_law_312 rfl (lv_at hl 3 rfl) ?_
  refine lv_iload_n hx hb dL_law_313 rfl (lv_at hl 0 rfl) ?_
  refine lv_iconst (v := 1) hx hb dL_law_314 (by decide) ?_
  refine lv_iadd hx hb dL_law_315 ?_
  refine va_sld hx hb hX hbl hbA hS (lw_in1 hi hL) dL_law_316 ?_
  refine jVi (n := 1) (is := [1]) (bs' := [jetW y a bb (sv 1 T (m_X7_tick_T_1 T Z (xs (nI i + 1).toNatClampNeg))) (m_X7_tick_Z Z ((o + k) % 6) (xs (nI i + 1).toNatClampNeg)), modW y a' (sv 4 (sv 2 (sv 1 (sv 0 Y (m_X8_tick_Y_0 Y (xs (nI i + 1).toNatClampNeg))) (m_X8_tick_Y_1 Y (xs (nI i + 1).toNatClampNeg))) (m_X8_tick_Y_2 Y (xs (nI i + 1).toNatClampNeg))) (m_X8_tick_Y_4 Y (xs (nI i + 1).toNatClampNeg)))]) hx hb hml hown hts hE hZ hA hP hD hS (ct_X8_tick l D y a' Y  (xs (nI i + 1).toNatClampNeg) (JR_st hJ) (JR_lg hJ)) rfl (by decide +kernel) (modW_fst _ _ _ _) rfl gL_law_X8_tick rfl (by decide +kernel) ⟨by decide, by decide⟩ ⟨rfl, rfl⟩ (kb := 1) rfl (q0 := 0) (ci := 8) rfl rfl rfl rfl hl.1 rfl (Nat.le_of_ble_eq_true rfl) hcr dL_law_317 (fun H locs hP hD hS => ?_)
  obtain ⟨heq, o1, k1, hJ1⟩ := jr_tick hJ rfl (xs (nI i + 1).toNatClampNeg)
  exact lv_icmp_eq (tgt := 627) hx hb dL_law_320 (by decide) (fun _ => kk o1 k1 _ _ _ H locs hJ1 hP hD hS) (fun q => absurd heq q)
set_option maxHeartbeats 4000000 in
set_option maxRecDepth 20000 in
theorem lw_c7 (h : LH p s m c b L xs D y A) (hP : va_P D vwCl ([jetW y a bb T Z, modW y a' Y] : List va_W).flatten H) (hD : va_D A ([jetW y a bb T Z, modW y a' Y] : List va_W).flatten) (hS : va_S A s.heap H locs) (hl : lv_has ls 4 [(3, .int (nI i)), (2, .ref (a' 0)), (1, .ref (a 0)), (0, .ref b)]) (hi : i + 3 ≤ L) (hJ : JR o k T Z Y) (hcr : cells ≤ room_1.cells ∧ slots ≤ room_1.slots) (kk : LK p l e s m below meth c b D y A a bb a' cells slots Q ls) : W p l e room_1 s m #[Value.ref b] below meth c H locs cells slots Q (F0 m 325 ls []) := by
  obtain ⟨hx, hb, hml, hown, hts, hE, hZ, hA, hX, hbl, hbA, hL, hcl⟩ := h
  refine lv_aload_n hx hb dL_law_325 rfl (lv_at hl 2 rfl) ?_
  refine jVi (n := 0) (is := [0]) (bs' := [jetW y a bb (sv 5 (sv 1 T (m_X7_run_T_1 T)) (m_X7_run_T_5 T)) (m_X7_run_Z T Z ((o + k) % 6)), modW y a' Y]) hx hb hml hown hts hE hZ hA hP hD hS ((ct_X7_run l D y a bb T Z o k ((o + k) % 6) hJ.2.2.1.2.2.1 hJ.2.2.1.2.2.2.1 hJ.2.2.1.1 hJ.2.2.1.2.1 rfl hJ.2.1 (JR_pad hJ)).pack (w := jetW y a bb T Z) (w' := jetW y a bb (sv 5 (sv 1 T (m_X7_run_T_1 T)) (m_X7_run_T_5 T)) (m_X7_run_Z T Z ((o + k) % 6))) rfl rfl) rfl (by decide +kernel) (jetW_fst _ _ _ _ _ _ _) rfl gL_law_X7_run rfl (by decide +kernel) ⟨by decide, by decide⟩ ⟨rfl, rfl⟩ (kb := 0) rfl (q0 := 0) (ci := 7) rfl rfl rfl rfl hl.1 rfl (Nat.le_of_ble_eq_true rfl) hcr dL_law_326 (fun H locs hP hD hS => ?_)
  refine lv_aload_n hx hb dL_law_329 rfl (lv_at hl 1 rfl) ?_
  refine jVi (n := 0) (is := [1]) (bs' := [jetW y a bb (sv 5 (sv 1 T (m_X7_run_T_1 T)) (m_X7_run_T_5 T)) (m_X7_run_Z T Z ((o + k) % 6)), modW y a' (m_X8_run Y)]) hx hb hml hown hts hE hZ hA hP hD hS (ct_X8_run l D y a' Y (JR_ln hJ) (JR_st hJ) (JR_lg hJ)) rfl (by decide +kernel) (modW_fst _ _ _ _) rfl gL_law_X8_run rfl (by decide +kernel) ⟨by decide, by decide⟩ ⟨rfl, rfl⟩ (kb := 1) rfl (q0 := 0) (ci := 8) rfl rfl rfl rfl hl.1 rfl (Nat.le_of_ble_eq_true rfl) hcr dL_law_330 (fun H locs hP hD hS => ?_)
  obtain ⟨heq, o1, k1, hJ1⟩ := jr_run hJ rfl
  exact lv_icmp_eq (tgt := 627) hx hb dL_law_333 (by decide) (fun _ => kk o1 k1 _ _ _ H locs hJ1 hP hD hS) (fun q => absurd heq q)
set_option maxHeartbeats 4000000 in
set_option maxRecDepth 20000 in
theorem lw_c8 (h : LH p s m c b L xs D y A) (hP : va_P D vwCl ([jetW y a bb T Z, modW y a' Y] : List va_W).flatten H) (hD : va_D A ([jetW y a bb T Z, modW y a' Y] : List va_W).flatten) (hS : va_S A s.heap H locs) (hl : lv_has ls 4 [(3, .int (nI i)), (2, .ref (a' 0)), (1, .ref (a 0)), (0, .ref b)]) (hi : i + 3 ≤ L) (hJ : JR o k T Z Y) (hcr : cells ≤ room_1.cells ∧ slots ≤ room_1.slots) (kk : LK p l e s m below meth c b D y A a bb a' cells slots Q ls) : W p l e room_1 s m #[Value.ref b] below meth c H locs cells slots Q (F0 m 338 ls []) := by
  obtain ⟨hx, hb, hml, hown, hts, hE, hZ, hA, hX, hbl, hbA, hL, hcl⟩ := h
  refine lv_aload_n hx hb dL_law_338 rfl (lv_at hl 2 rfl) ?_
  refine lv_aload_n hx hb dL_law_339 rfl (lv_at hl 3 rfl) ?_
  refine lv_iload_n hx hb dL_law_340 rfl (lv_at hl 0 rfl) ?_
  refine lv_iconst (v := 1) hx hb dL_law_341 (by decide) ?_
  refine lv_iadd hx hb dL_law_342 ?_
  refine va_sld hx hb hX hbl hbA hS (lw_in1 hi hL) dL_law_343 ?_
  refine jVi (n := 1) (is := [0]) (bs' := [jetW y a bb T Z, modW y a' Y]) hx hb hml hown hts hE hZ hA hP hD hS ((ct_X7_engine l D y a bb T Z  (xs (nI i + 1).toNatClampNeg)).pack (w := jetW y a bb T Z) (w' := jetW y a bb T Z) rfl rfl) rfl (by decide +kernel) (jetW_fst _ _ _ _ _ _ _) rfl gL_law_X7_engine rfl (by decide +kernel) ⟨by decide, by decide⟩ ⟨rfl, rfl⟩ (kb := 0) rfl (q0 := 0) (ci := 7) rfl rfl rfl rfl hl.1 rfl (Nat.le_of_ble_eq_true rfl) hcr dL_law_344 (fun H locs hP hD hS => ?_)
  refine lv_aload_n hx hb dL_law_347 rfl (lv_at hl 1 rfl) ?_
  refine lv_aload_n hx hb dL_law_348 rfl (lv_at hl 3 rfl) ?_
  refine lv_iload_n hx hb dL_law_349 rfl (lv_at hl 0 rfl) ?_
  refine lv_iconst (v := 1) hx hb dL_law_350 (by decide) ?_
  refine lv_iadd hx hb dL_law_351 ?_
  refine va_sld hx hb hX hbl hbA hS (lw_in1 hi hL) dL_law_352 ?_
  refine jVi (n := 1) (is := [1]) (bs' := [jetW y a bb T Z, modW y a' Y]) hx hb hml hown hts hE hZ hA hP hD hS (ct_X8_engine l D y a' Y  (xs (nI i + 1).toNatClampNeg)) rfl (by decide +kernel) (modW_fst _ _ _ _) rfl gL_law_X8_engine rfl (by decide +kernel) ⟨by decide, by decide⟩ ⟨rfl, rfl⟩ (kb := 1) rfl (q0 := 0) (ci := 8) rfl rfl rfl rfl hl.1 rfl (Nat.le_of_ble_eq_true rfl) hcr dL_law_353 (fun H locs hP hD hS => ?_)
  exact lv_icmp_eq (tgt := 627) hx hb dL_law_356 (by decide) (fun _ => kk o k T Z Y H locs hJ hP hD hS) (fun q => absurd (jq_engine hJ (xs (nI i + 1).toNatClampNeg)) q)
set_option maxHeartbeats 4000000 in
set_option maxRecDepth 20000 in
theorem lw_c9 (h : LH p s m c b L xs D y A) (hP : va_P D vwCl ([jetW y a bb T Z, modW y a' Y] : List va_W).flatten H) (hD : va_D A ([jetW y a bb T Z, modW y a' Y] : List va_W).flatten) (hS : va_S A s.heap H locs) (hl : lv_has ls 4 [(3, .int (nI i)), (2, .ref (a' 0)), (1, .ref (a 0)), (0, .ref b)]) (hi : i + 3 ≤ L) (hJ : JR o k T Z Y) (hcr : cells ≤ room_1.cells ∧ slots ≤ room_1.slots) (kk : LK p l e s m below meth c b D y A a bb a' cells slots Q ls) : W p l e room_1 s m #[Value.ref b] below meth c H locs cells slots Q (F0 m 361 ls []) := by
  obtain ⟨hx, hb, hml, hown, hts, hE, hZ, hA, hX, hbl, hbA, hL, hcl⟩ := h
  refine lv_aload_n hx hb dL_law_361 rfl (lv_at hl 2 rfl) ?_
  refine lv_aload_n hx hb dL_law_362 rfl (lv_at hl 3 rfl) ?_
  refine lv_iload_n hx hb dL_law_363 rfl (lv_at hl 0 rfl) ?_
  refine lv_iconst (v := 1) hx hb dL_law_364 (by decide) ?_
  refine lv_iadd hx hb dL_law_365 ?_
  refine va_sld hx hb hX hbl hbA hS (lw_in1 hi hL) dL_law_366 ?_
  refine lv_aload_n hx hb dL_law_367 rfl (lv_at hl 3 rfl) ?_
  refine lv_iload_n hx hb dL_law_368 rfl (lv_at hl 0 rfl) ?_
  refine lv_iconst (v := 2) hx hb dL_law_369 (by decide) ?_
  refine lv_iadd hx hb dL_law_370 ?_
  refine va_sld hx hb hX hbl hbA hS (lw_in2 hi hL) dL_law_371 ?_
  refine jVi (n := 2) (is := [0]) (bs' := [jetW y a bb T Z, modW y a' Y]) hx hb hml hown hts hE hZ hA hP hD hS ((ct_X7_start l D y a bb T Z  (xs (nI i + 1).toNatClampNeg) (xs (nI i + 2).toNatClampNeg) (JR_log hJ)).pack (w := jetW y a bb T Z) (w' := jetW y a bb T Z) rfl rfl) rfl (by decide +kernel) (jetW_fst _ _ _ _ _ _ _) rfl gL_law_X7_start rfl (by decide +kernel) ⟨by decide, by decide⟩ ⟨rfl, rfl⟩ (kb := 0) rfl (q0 := 0) (ci := 7) rfl rfl rfl rfl hl.1 rfl (Nat.le_of_ble_eq_true rfl) hcr dL_law_372 (fun H locs hP hD hS => ?_)
  refine lv_aload_n hx hb dL_law_375 rfl (lv_at hl 1 rfl) ?_
  refine lv_aload_n hx hb dL_law_376 rfl (lv_at hl 3 rfl) ?_
  refine lv_iload_n hx hb dL_law_377 rfl (lv_at hl 0 rfl) ?_
  refine lv_iconst (v := 1) hx hb dL_law_378 (by decide) ?_
  refine lv_iadd hx hb dL_law_379 ?_
  refine va_sld hx hb hX hbl hbA hS (lw_in1 hi hL) dL_law_380 ?_
  refine lv_aload_n hx hb dL_law_381 rfl (lv_at hl 3 rfl) ?_
  refine lv_iload_n hx hb dL_law_382 rfl (lv_at hl 0 rfl) ?_
  refine lv_iconst (v := 2) hx hb dL_law_383 (by decide) ?_
  refine lv_iadd hx hb dL_law_384 ?_
  refine va_sld hx hb hX hbl hbA hS (lw_in2 hi hL) dL_law_385 ?_
  refine jVi (n := 2) (is := [1]) (bs' := [jetW y a bb T Z, modW y a' Y]) hx hb hml hown hts hE hZ hA hP hD hS (ct_X8_start l D y a' Y  (xs (nI i + 1).toNatClampNeg) (xs (nI i + 2).toNatClampNeg) (JR_lg hJ)) rfl (by decide +kernel) (modW_fst _ _ _ _) rfl gL_law_X8_start rfl (by decide +kernel) ⟨by decide, by decide⟩ ⟨rfl, rfl⟩ (kb := 1) rfl (q0 := 0) (ci := 8) rfl rfl rfl rfl hl.1 rfl (Nat.le_of_ble_eq_true rfl) hcr dL_law_386 (fun H locs hP hD hS => ?_)
  exact lv_icmp_eq (tgt := 627) hx hb dL_law_389 (by decide) (fun _ => kk o k T Z Y H locs hJ hP hD hS) (fun q => absurd (jq_start hJ (xs (nI i + 1).toNatClampNeg) (xs (nI i + 2).toNatClampNeg)) q)
set_option maxHeartbeats 4000000 in
set_option maxRecDepth 20000 in
theorem lw_c10 (h : LH p s m c b L xs D y A) (hP : va_P D vwCl ([jetW y a bb T Z, modW y a' Y] : List va_W).flatten H) (hD : va_D A ([jetW y a bb T Z, modW y a' Y] : List va_W).flatten) (hS : va_S A s.heap H locs) (hl : lv_has ls 4 [(3, .int (nI i)), (2, .ref (a' 0)), (1, .ref (a 0)), (0, .ref b)]) (hi : i + 3 ≤ L) (hJ : JR o k T Z Y) (hcr : cells ≤ room_1.cells ∧ slots ≤ room_1.slots) (kk : LK p l e s m below meth c b D y A a bb a' cells slots Q ls) : W p l e room_1 s m #[Value.ref b] below meth c H locs cells slots Q (F0 m 394 ls []) := by
  obtain ⟨hx, hb, hml, hown, hts, hE, hZ, hA, hX, hbl, hbA, hL, hcl⟩ := h
  refine lv_aload_n hx hb dL_law_394 rfl (lv_at hl 2 rfl) ?_
  refine lv_aload_n hx hb dL_law_395 rfl (lv_at hl 3 rfl) ?_
  refine lv_iload_n hx hb dL_law_396 rfl (lv_at hl 0 rfl) ?_
  refine lv_iconst (v := 1) hx hb dL_law_397 (by decide) ?_
  refine lv_iadd hx hb dL_law_398 ?_
  refine va_sld hx hb hX hbl hbA hS (lw_in1 hi hL) dL_law_399 ?_
  refine jVi (n := 1) (is := [0]) (bs' := [jetW y a bb T Z, modW y a' Y]) hx hb hml hown hts hE hZ hA hP hD hS ((ct_X7_count l D y a bb T Z  (xs (nI i + 1).toNatClampNeg)).pack (w := jetW y a bb T Z) (w' := jetW y a bb T Z) rfl rfl) rfl (by decide +kernel) (jetW_fst _ _ _ _ _ _ _) rfl gL_law_X7_count rfl (by decide +kernel) ⟨by decide, by decide⟩ ⟨rfl, rfl⟩ (kb := 0) rfl (q0 := 0) (ci := 7) rfl rfl rfl rfl hl.1 rfl (Nat.le_of_ble_eq_true rfl) hcr dL_law_400 (fun H locs hP hD hS => ?_)
  refine lv_aload_n hx hb dL_law_403 rfl (lv_at hl 1 rfl) ?_
  refine lv_aload_n hx hb dL_law_404 rfl (lv_at hl 3 rfl) ?_
  refine lv_iload_n hx hb dL_law_405 rfl (lv_at hl 0 rfl) ?_
  refine lv_iconst (v := 1) hx hb dL_law_406 (by decide) ?_
  refine lv_iadd hx hb dL_law_407 ?_
  refine va_sld hx hb hX hbl hbA hS (lw_in1 hi hL) dL_law_408 ?_
  refine jVi (n := 1) (is := [1]) (bs' := [jetW y a bb T Z, modW y a' Y]) hx hb hml hown hts hE hZ hA hP hD hS (ct_X8_count l D y a' Y  (xs (nI i + 1).toNatClampNeg)) rfl (by decide +kernel) (modW_fst _ _ _ _) rfl gL_law_X8_count rfl (by decide +kernel) ⟨by decide, by decide⟩ ⟨rfl, rfl⟩ (kb := 1) rfl (q0 := 0) (ci := 8) rfl rfl rfl rfl hl.1 rfl (Nat.le_of_ble_eq_true rfl) hcr dL_law_409 (fun H locs hP hD hS => ?_)
  exact lv_icmp_eq (tgt := 627) hx hb dL_law_412 (by decide) (fun _ => kk o k T Z Y H locs hJ hP hD hS) (fun q => absurd (jq_count hJ (xs (nI i + 1).toNatClampNeg)) q)
set_option maxHeartbeats 4000000 in
set_option maxRecDepth 20000 in
theorem lw_c11 (h : LH p s m c b L xs D y A) (hP : va_P D vwCl ([jetW y a bb T Z, modW y a' Y] : List va_W).flatten H) (hD : va_D A ([jetW y a bb T Z, modW y a' Y] : List va_W).flatten) (hS : va_S A s.heap H locs) (hl : lv_has ls 4 [(3, .int (nI i)), (2, .ref (a' 0)), (1, .ref (a 0)), (0, .ref b)]) (hi : i + 3 ≤ L) (hJ : JR o k T Z Y) (hcr : cells ≤ room_1.cells ∧ slots ≤ room_1.slots) (kk : LK p l e s m below meth c b D y A a bb a' cells slots Q ls) : W p l e room_1 s m #[Value.ref b] below meth c H locs cells slots Q (F0 m 417 ls []) := by
  obtain ⟨hx, hb, hml, hown, hts, hE, hZ, hA, hX, hbl, hbA, hL, hcl⟩ := h
  refine lv_aload_n hx hb dL_law_417 rfl (lv_at hl 2 rfl) ?_
  refine jVi (n := 0) (is := [0]) (bs' := [jetW y a bb T (m_X7_untilRunning_Z Z), modW y a' Y]) hx hb hml hown hts hE hZ hA hP hD hS ((ct_X7_untilRunning l D y a bb T Z hJ.2.1).pack (w := jetW y a bb T Z) (w' := jetW y a bb T (m_X7_untilRunning_Z Z)) rfl rfl) rfl (by decide +kernel) (jetW_fst _ _ _ _ _ _ _) rfl gL_law_X7_untilRunning rfl (by decide +kernel) ⟨by decide, by decide⟩ ⟨rfl, rfl⟩ (kb := 0) rfl (q0 := 0) (ci := 7) rfl rfl rfl rfl hl.1 rfl (Nat.le_of_ble_eq_true rfl) hcr dL_law_418 (fun H locs hP hD hS => ?_)
  refine lv_aload_n hx hb dL_law_421 rfl (lv_at hl 1 rfl) ?_
  refine jVi (n := 0) (is := [1]) (bs' := [jetW y a bb T (m_X7_untilRunning_Z Z), modW y a' (sv 3 (sv 1 Y (Y 1)) (Y 1))]) hx hb hml hown hts hE hZ hA hP hD hS (ct_X8_untilRunning l D y a' Y (JR_lg hJ)) rfl (by decide +kernel) (modW_fst _ _ _ _) rfl gL_law_X8_untilRunning rfl (by decide +kernel) ⟨by decide, by decide⟩ ⟨rfl, rfl⟩ (kb := 1) rfl (q0 := 0) (ci := 8) rfl rfl rfl rfl hl.1 rfl (Nat.le_of_ble_eq_true rfl) hcr dL_law_422 (fun H locs hP hD hS => ?_)
  obtain ⟨heq, o1, k1, hJ1⟩ := jq_until hJ
  exact lv_icmp_eq (tgt := 627) hx hb dL_law_425 (by decide) (fun _ => kk o1 k1 _ _ _ H locs hJ1 hP hD hS) (fun q => absurd heq q)
set_option maxHeartbeats 4000000 in
set_option maxRecDepth 20000 in
theorem lw_c12 (h : LH p s m c b L xs D y A) (hP : va_P D vwCl ([jetW y a bb T Z, modW y a' Y] : List va_W).flatten H) (hD : va_D A ([jetW y a bb T Z, modW y a' Y] : List va_W).flatten) (hS : va_S A s.heap H locs) (hl : lv_has ls 4 [(3, .int (nI i)), (2, .ref (a' 0)), (1, .ref (a 0)), (0, .ref b)]) (hi : i + 3 ≤ L) (hJ : JR o k T Z Y) (hcr : cells ≤ room_1.cells ∧ slots ≤ room_1.slots) (kk : LK p l e s m below meth c b D y A a bb a' cells slots Q ls) : W p l e room_1 s m #[Value.ref b] below meth c H locs cells slots Q (F0 m 430 ls []) := by
  obtain ⟨hx, hb, hml, hown, hts, hE, hZ, hA, hX, hbl, hbA, hL, hcl⟩ := h
  refine lv_aload_n hx hb dL_law_430 rfl (lv_at hl 2 rfl) ?_
  refine lv_aload_n hx hb dL_law_431 rfl (lv_at hl 3 rfl) ?_
  refine lv_iload_n hx hb dL_law_432 rfl (lv_at hl 0 rfl) ?_
  refine lv_iconst (v := 1) hx hb dL_law_433 (by decide) ?_
  refine lv_iadd hx hb dL_law_434 ?_
  refine va_sld hx hb hX hbl hbA hS (lw_in1 hi hL) dL_law_435 ?_
  refine lv_aload_n hx hb dL_law_436 rfl (lv_at hl 3 rfl) ?_
  refine lv_iload_n hx hb dL_law_437 rfl (lv_at hl 0 rfl) ?_
  refine lv_iconst (v := 2) hx hb dL_law_438 (by decide) ?_
  refine lv_iadd hx hb dL_law_439 ?_
  refine va_sld hx hb hX hbl hbA hS (lw_in2 hi hL) dL_law_440 ?_
  refine jVi (n := 2) (is := [0]) (bs' := [jetW y a bb T (m_X7_ifTicked_Z Z (xs (nI i + 1).toNatClampNeg) (xs (nI i + 2).toNatClampNeg)), modW y a' Y]) hx hb hml hown hts hE hZ hA hP hD hS ((ct_X7_ifTicked l D y a bb T Z  (xs (nI i + 1).toNatClampNeg) (xs (nI i + 2).toNatClampNeg) hJ.2.1).pack (w := jetW y a bb T Z) (w' := jetW y a bb T (m_X7_ifTicked_Z Z (xs (nI i + 1).toNatClampNeg) (xs (nI i + 2).toNatClampNeg))) rfl rfl) rfl (by decide +kernel) (jetW_fst _ _ _ _ _ _ _) rfl gL_law_X7_ifTicked rfl (by decide +kernel) ⟨by decide, by decide⟩ ⟨rfl, rfl⟩ (kb := 0) rfl (q0 := 0) (ci := 7) rfl rfl rfl rfl hl.1 rfl (Nat.le_of_ble_eq_true rfl) hcr dL_law_441 (fun H locs hP hD hS => ?_)
  refine lv_aload_n hx hb dL_law_444 rfl (lv_at hl 1 rfl) ?_
  refine lv_aload_n hx hb dL_law_445 rfl (lv_at hl 3 rfl) ?_
  refine lv_iload_n hx hb dL_law_446 rfl (lv_at hl 0 rfl) ?_
  refine lv_iconst (v := 1) hx hb dL_law_447 (by decide) ?_
  refine lv_iadd hx hb dL_law_448 ?_
  refine va_sld hx hb hX hbl hbA hS (lw_in1 hi hL) dL_law_449 ?_
  refine lv_aload_n hx hb dL_law_450 rfl (lv_at hl 3 rfl) ?_
  refine lv_iload_n hx hb dL_law_451 rfl (lv_at hl 0 rfl) ?_
  refine lv_iconst (v := 2) hx hb dL_law_452 (by decide) ?_
  refine lv_iadd hx hb dL_law_453 ?_
  refine va_sld hx hb hX hbl hbA hS (lw_in2 hi hL) dL_law_454 ?_
  refine jVi (n := 2) (is := [1]) (bs' := [jetW y a bb T (m_X7_ifTicked_Z Z (xs (nI i + 1).toNatClampNeg) (xs (nI i + 2).toNatClampNeg)), modW y a' (sv 3 (sv 1 Y (Y 1)) (m_X8_ifTicked_Y_3 Y (xs (nI i + 1).toNatClampNeg) (xs (nI i + 2).toNatClampNeg)))]) hx hb hml hown hts hE hZ hA hP hD hS (ct_X8_ifTicked l D y a' Y  (xs (nI i + 1).toNatClampNeg) (xs (nI i + 2).toNatClampNeg) (JR_lg hJ)) rfl (by decide +kernel) (modW_fst _ _ _ _) rfl gL_law_X8_ifTicked rfl (by decide +kernel) ⟨by decide, by decide⟩ ⟨rfl, rfl⟩ (kb := 1) rfl (q0 := 0) (ci := 8) rfl rfl rfl rfl hl.1 rfl (Nat.le_of_ble_eq_true rfl) hcr dL_law_455 (fun H locs hP hD hS => ?_)
  obtain ⟨heq, o1, k1, hJ1⟩ := jq_if hJ (xs (nI i + 1).toNatClampNeg) (xs (nI i + 2).toNatClampNeg)
  exact lv_icmp_eq (tgt := 627) hx hb dL_law_458 (by decide) (fun _ => kk o1 k1 _ _ _ H locs hJ1 hP hD hS) (fun q => absurd heq q)
set_option maxHeartbeats 4000000 in
set_option maxRecDepth 20000 in
theorem lw_c13 (h : LH p s m c b L xs D y A) (hP : va_P D vwCl ([jetW y a bb T Z, modW y a' Y] : List va_W).flatten H) (hD : va_D A ([jetW y a bb T Z, modW y a' Y] : List va_W).flatten) (hS : va_S A s.heap H locs) (hl : lv_has ls 4 [(3, .int (nI i)), (2, .ref (a' 0)), (1, .ref (a 0)), (0, .ref b)]) (hi : i + 3 ≤ L) (hJ : JR o k T Z Y) (hcr : cells ≤ room_1.cells ∧ slots ≤ room_1.slots) (kk : LK p l e s m below meth c b D y A a bb a' cells slots Q ls) : W p l e room_1 s m #[Value.ref b] below meth c H locs cells slots Q (F0 m 463 ls []) := by
  obtain ⟨hx, hb, hml, hown, hts, hE, hZ, hA, hX, hbl, hbA, hL, hcl⟩ := h
  refine lv_aload_n hx hb dL_law_463 rfl (lv_at hl 2 rfl) ?_
  refine jVi (n := 0) (is := [0]) (bs' := [jetW y a bb T (upZ 1 Z (bTr Z 11)), modW y a' Y]) hx hb hml hown hts hE hZ hA hP hD hS ((ct_X7_bestFuel l D y a bb T Z hJ.2.1).pack (w := jetW y a bb T Z) (w' := jetW y a bb T (upZ 1 Z (bTr Z 11))) rfl rfl) rfl (by decide +kernel) (jetW_fst _ _ _ _ _ _ _) rfl gL_law_X7_bestFuel rfl (by decide +kernel) ⟨by decide, by decide⟩ ⟨rfl, rfl⟩ (kb := 0) rfl (q0 := 0) (ci := 7) rfl rfl rfl rfl hl.1 rfl (Nat.le_of_ble_eq_true rfl) hcr dL_law_464 (fun H locs hP hD hS => ?_)
  refine lv_aload_n hx hb dL_law_467 rfl (lv_at hl 1 rfl) ?_
  refine jVi (n := 0) (is := [1]) (bs' := [jetW y a bb T (upZ 1 Z (bTr Z 11)), modW y a' (sv 3 (sv 1 Y (Y 1)) (Y 1))]) hx hb hml hown hts hE hZ hA hP hD hS (ct_X8_bestFuel l D y a' Y (JR_lg hJ)) rfl (by decide +kernel) (modW_fst _ _ _ _) rfl gL_law_X8_bestFuel rfl (by decide +kernel) ⟨by decide, by decide⟩ ⟨rfl, rfl⟩ (kb := 1) rfl (q0 := 0) (ci := 8) rfl rfl rfl rfl hl.1 rfl (Nat.le_of_ble_eq_true rfl) hcr dL_law_468 (fun H locs hP hD hS => ?_)
  obtain ⟨heq, o1, k1, hJ1⟩ := jq_best hJ
  exact lv_icmp_eq (tgt := 627) hx hb dL_law_471 (by decide) (fun _ => kk o1 k1 _ _ _ H locs hJ1 hP hD hS) (fun q => absurd heq q)
set_option maxHeartbeats 4000000 in
set_option maxRecDepth 20000 in
theorem lw_c14 (h : LH p s m c b L xs D y A) (hP : va_P D vwCl ([jetW y a bb T Z, modW y a' Y] : List va_W).flatten H) (hD : va_D A ([jetW y a bb T Z, modW y a' Y] : List va_W).flatten) (hS : va_S A s.heap H locs) (hl : lv_has ls 4 [(3, .int (nI i)), (2, .ref (a' 0)), (1, .ref (a 0)), (0, .ref b)]) (hi : i + 3 ≤ L) (hJ : JR o k T Z Y) (hcr : cells ≤ room_1.cells ∧ slots ≤ room_1.slots) (kk : LK p l e s m below meth c b D y A a bb a' cells slots Q ls) : W p l e room_1 s m #[Value.ref b] below meth c H locs cells slots Q (F0 m 476 ls []) := by
  obtain ⟨hx, hb, hml, hown, hts, hE, hZ, hA, hX, hbl, hbA, hL, hcl⟩ := h
  refine lv_aload_n hx hb dL_law_476 rfl (lv_at hl 2 rfl) ?_
  refine jVi (n := 0) (is := [0]) (bs' := [jetW y a bb T (upZ 1 Z ((lB Z 101 0).2)), modW y a' Y]) hx hb hml hown hts hE hZ hA hP hD hS ((ct_X7_leastBattery l D y a bb T Z hJ.2.1).pack (w := jetW y a bb T Z) (w' := jetW y a bb T (upZ 1 Z ((lB Z 101 0).2))) rfl rfl) rfl (by decide +kernel) (jetW_fst _ _ _ _ _ _ _) rfl gL_law_X7_leastBattery rfl (by decide +kernel) ⟨by decide, by decide⟩ ⟨rfl, rfl⟩ (kb := 0) rfl (q0 := 0) (ci := 7) rfl rfl rfl rfl hl.1 rfl (Nat.le_of_ble_eq_true rfl) hcr dL_law_477 (fun H locs hP hD hS => ?_)
  refine lv_aload_n hx hb dL_law_480 rfl (lv_at hl 1 rfl) ?_
  refine jVi (n := 0) (is := [1]) (bs' := [jetW y a bb T (upZ 1 Z ((lB Z 101 0).2)), modW y a' (sv 3 (sv 1 Y (Y 1)) (Y 1))]) hx hb hml hown hts hE hZ hA hP hD hS (ct_X8_leastBattery l D y a' Y (JR_lg hJ)) rfl (by decide +kernel) (modW_fst _ _ _ _) rfl gL_law_X8_leastBattery rfl (by decide +kernel) ⟨by decide, by decide⟩ ⟨rfl, rfl⟩ (kb := 1) rfl (q0 := 0) (ci := 8) rfl rfl rfl rfl hl.1 rfl (Nat.le_of_ble_eq_true rfl) hcr dL_law_481 (fun H locs hP hD hS => ?_)
  obtain ⟨heq, o1, k1, hJ1⟩ := jq_least hJ
  exact lv_icmp_eq (tgt := 627) hx hb dL_law_484 (by decide) (fun _ => kk o1 k1 _ _ _ H locs hJ1 hP hD hS) (fun q => absurd heq q)
set_option maxHeartbeats 4000000 in
set_option maxRecDepth 20000 in
theorem lw_c15 (h : LH p s m c b L xs D y A) (hP : va_P D vwCl ([jetW y a bb T Z, modW y a' Y] : List va_W).flatten H) (hD : va_D A ([jetW y a bb T Z, modW y a' Y] : List va_W).flatten) (hS : va_S A s.heap H locs) (hl : lv_has ls 4 [(3, .int (nI i)), (2, .ref (a' 0)), (1, .ref (a 0)), (0, .ref b)]) (hi : i + 3 ≤ L) (hJ : JR o k T Z Y) (hcr : cells ≤ room_1.cells ∧ slots ≤ room_1.slots) (kk : LK p l e s m below meth c b D y A a bb a' cells slots Q ls) : W p l e room_1 s m #[Value.ref b] below meth c H locs cells slots Q (F0 m 489 ls []) := by
  obtain ⟨hx, hb, hml, hown, hts, hE, hZ, hA, hX, hbl, hbA, hL, hcl⟩ := h
  obtain ⟨c0, hc1, hc0⟩ := chV 8 0 ((((xs (nI i + 1).toNatClampNeg)).toInt64 <<< ((32 : Int32).toInt64 &&& 63)) ||| (((xs (nI i + 2).toNatClampNeg)).toInt64 &&& 4294967295))
  have hc1 : c0 ≤ 8 := by omega
  refine lv_aload_n hx hb dL_law_489 rfl (lv_at hl 2 rfl) ?_
  refine lv_aload_n hx hb dL_law_490 rfl (lv_at hl 3 rfl) ?_
  refine lv_iload_n hx hb dL_law_491 rfl (lv_at hl 0 rfl) ?_
  refine lv_iconst (v := 1) hx hb dL_law_492 (by decide) ?_
  refine lv_iadd hx hb dL_law_493 ?_
  refine va_sld hx hb hX hbl hbA hS (lw_in1 hi hL) dL_law_494 ?_
  refine lv_i2l hx hb dL_law_495 rfl ?_
  refine lv_bipush (v := 32) hx hb dL_law_496 (by decide) ?_
  refine lv_lshl hx hb dL_law_498 rfl ?_
  refine lv_aload_n hx hb dL_law_499 rfl (lv_at hl 3 rfl) ?_
  refine lv_iload_n hx hb dL_law_500 rfl (lv_at hl 0 rfl) ?_
  refine lv_iconst (v := 2) hx hb dL_law_501 (by decide) ?_
  refine lv_iadd hx hb dL_law_502 ?_
  refine va_sld hx hb hX hbl hbA hS (lw_in2 hi hL) dL_law_503 ?_
  refine lv_i2l hx hb dL_law_504 rfl ?_
  refine lv_ldc2 (v := 4294967295) hx hb hown (hts _ hcl) dL_law_505 ?_
  refine lv_land hx hb dL_law_508 ?_
  refine lv_lor hx hb dL_law_509 ?_
  refine jVi (n := 1) (is := [0]) (bs' := [jetW y a bb (sv 6 (sv 5 T (m_X7_put_T_5 T ((((xs (nI i + 1).toNatClampNeg)).toInt64 <<< ((32 : Int32).toInt64 &&& 63)) ||| (((xs (nI i + 2).toNatClampNeg)).toInt64 &&& 4294967295)) c0)) (m_X7_put_T_6 T ((((xs (nI i + 1).toNatClampNeg)).toInt64 <<< ((32 : Int32).toInt64 &&& 63)) ||| (((xs (nI i + 2).toNatClampNeg)).toInt64 &&& 4294967295)) c0)) Z, modW y a' Y]) hx hb hml hown hts hE hZ hA hP hD hS ((ct_X7_put l D y a bb T Z  ((((xs (nI i + 1).toNatClampNeg)).toInt64 <<< ((32 : Int32).toInt64 &&& 63)) ||| (((xs (nI i + 2).toNatClampNeg)).toInt64 &&& 4294967295)) c0 hc0 (by omega) (JR_len hJ)).pack (w := jetW y a bb T Z) (w' := jetW y a bb (sv 6 (sv 5 T (m_X7_put_T_5 T ((((xs (nI i + 1).toNatClampNeg)).toInt64 <<< ((32 : Int32).toInt64 &&& 63)) ||| (((xs (nI i + 2).toNatClampNeg)).toInt64 &&& 4294967295)) c0)) (m_X7_put_T_6 T ((((xs (nI i + 1).toNatClampNeg)).toInt64 <<< ((32 : Int32).toInt64 &&& 63)) ||| (((xs (nI i + 2).toNatClampNeg)).toInt64 &&& 4294967295)) c0)) Z) rfl rfl) rfl (by decide +kernel) (jetW_fst _ _ _ _ _ _ _) rfl gL_law_X7_put rfl (by decide +kernel) ⟨by decide, by decide⟩ ⟨rfl, rfl⟩ (kb := 0) rfl (q0 := 0) (ci := 7) rfl rfl rfl rfl hl.1 rfl (Nat.le_of_ble_eq_true rfl) hcr dL_law_510 (fun H locs hP hD hS => ?_)
  refine lv_aload_n hx hb dL_law_513 rfl (lv_at hl 1 rfl) ?_
  refine lv_aload_n hx hb dL_law_514 rfl (lv_at hl 3 rfl) ?_
  refine lv_iload_n hx hb dL_law_515 rfl (lv_at hl 0 rfl) ?_
  refine lv_iconst (v := 1) hx hb dL_law_516 (by decide) ?_
  refine lv_iadd hx hb dL_law_517 ?_
  refine va_sld hx hb hX hbl hbA hS (lw_in1 hi hL) dL_law_518 ?_
  refine lv_i2l hx hb dL_law_519 rfl ?_
  refine lv_bipush (v := 32) hx hb dL_law_520 (by decide) ?_
  refine lv_lshl hx hb dL_law_522 rfl ?_
  refine lv_aload_n hx hb dL_law_523 rfl (lv_at hl 3 rfl) ?_
  refine lv_iload_n hx hb dL_law_524 rfl (lv_at hl 0 rfl) ?_
  refine lv_iconst (v := 2) hx hb dL_law_525 (by decide) ?_
  refine lv_iadd hx hb dL_law_526 ?_
  refine va_sld hx hb hX hbl hbA hS (lw_in2 hi hL) dL_law_527 ?_
  refine lv_i2l hx hb dL_law_528 rfl ?_
  refine lv_ldc2 (v := 4294967295) hx hb hown (hts _ hcl) dL_law_529 ?_
  refine lv_land hx hb dL_law_532 ?_
  refine lv_lor hx hb dL_law_533 ?_
  refine jVi (n := 1) (is := [1]) (bs' := [jetW y a bb (sv 6 (sv 5 T (m_X7_put_T_5 T ((((xs (nI i + 1).toNatClampNeg)).toInt64 <<< ((32 : Int32).toInt64 &&& 63)) ||| (((xs (nI i + 2).toNatClampNeg)).toInt64 &&& 4294967295)) c0)) (m_X7_put_T_6 T ((((xs (nI i + 1).toNatClampNeg)).toInt64 <<< ((32 : Int32).toInt64 &&& 63)) ||| (((xs (nI i + 2).toNatClampNeg)).toInt64 &&& 4294967295)) c0)) Z, modW y a' (sv 0 (sv 8 Y (m_X8_put_Y_8 Y ((((xs (nI i + 1).toNatClampNeg)).toInt64 <<< ((32 : Int32).toInt64 &&& 63)) ||| (((xs (nI i + 2).toNatClampNeg)).toInt64 &&& 4294967295)) c0)) (m_X8_put_Y_0 Y ((((xs (nI i + 1).toNatClampNeg)).toInt64 <<< ((32 : Int32).toInt64 &&& 63)) ||| (((xs (nI i + 2).toNatClampNeg)).toInt64 &&& 4294967295)) c0))]) hx hb hml hown hts hE hZ hA hP hD hS (ct_X8_put l D y a' Y  ((((xs (nI i + 1).toNatClampNeg)).toInt64 <<< ((32 : Int32).toInt64 &&& 63)) ||| (((xs (nI i + 2).toNatClampNeg)).toInt64 &&& 4294967295)) c0 hc0 (by omega) (JR_ln hJ)) rfl (by decide +kernel) (modW_fst _ _ _ _) rfl gL_law_X8_put rfl (by decide +kernel) ⟨by decide, by decide⟩ ⟨rfl, rfl⟩ (kb := 1) rfl (q0 := 0) (ci := 8) rfl rfl rfl rfl hl.1 rfl (Nat.le_of_ble_eq_true rfl) hcr dL_law_534 (fun H locs hP hD hS => ?_)
  obtain ⟨heq, o1, k1, hJ1⟩ := jr_put hJ ((((xs (nI i + 1).toNatClampNeg)).toInt64 <<< ((32 : Int32).toInt64 &&& 63)) ||| (((xs (nI i + 2).toNatClampNeg)).toInt64 &&& 4294967295)) hc1
  exact lv_icmp_eq (tgt := 627) hx hb dL_law_537 (by decide) (fun _ => kk o1 k1 _ _ _ H locs hJ1 hP hD hS) (fun q => absurd heq q)
set_option maxHeartbeats 4000000 in
set_option maxRecDepth 20000 in
theorem lw_c16 (h : LH p s m c b L xs D y A) (hP : va_P D vwCl ([jetW y a bb T Z, modW y a' Y] : List va_W).flatten H) (hD : va_D A ([jetW y a bb T Z, modW y a' Y] : List va_W).flatten) (hS : va_S A s.heap H locs) (hl : lv_has ls 4 [(3, .int (nI i)), (2, .ref (a' 0)), (1, .ref (a 0)), (0, .ref b)]) (hi : i + 3 ≤ L) (hJ : JR o k T Z Y) (hcr : cells ≤ room_1.cells ∧ slots ≤ room_1.slots) (kk : LK p l e s m below meth c b D y A a bb a' cells slots Q ls) : W p l e room_1 s m #[Value.ref b] below meth c H locs cells slots Q (F0 m 542 ls []) := by
  obtain ⟨hx, hb, hml, hown, hts, hE, hZ, hA, hX, hbl, hbA, hL, hcl⟩ := h
  refine lv_aload_n hx hb dL_law_542 rfl (lv_at hl 2 rfl) ?_
  refine jVi (n := 0) (is := [0]) (bs' := [jetW y a bb (sv 5 T (m_X7_wipe_T_5 T)) Z, modW y a' Y]) hx hb hml hown hts hE hZ hA hP hD hS ((ct_X7_wipe l D y a bb T Z ).pack (w := jetW y a bb T Z) (w' := jetW y a bb (sv 5 T (m_X7_wipe_T_5 T)) Z) rfl rfl) rfl (by decide +kernel) (jetW_fst _ _ _ _ _ _ _) rfl gL_law_X7_wipe rfl (by decide +kernel) ⟨by decide, by decide⟩ ⟨rfl, rfl⟩ (kb := 0) rfl (q0 := 0) (ci := 7) rfl rfl rfl rfl hl.1 rfl (Nat.le_of_ble_eq_true rfl) hcr dL_law_543 (fun H locs hP hD hS => ?_)
  refine lv_aload_n hx hb dL_law_546 rfl (lv_at hl 1 rfl) ?_
  refine jVi (n := 0) (is := [1]) (bs' := [jetW y a bb (sv 5 T (m_X7_wipe_T_5 T)) Z, modW y a' (sv 0 Y (m_X8_wipe_Y_0 Y))]) hx hb hml hown hts hE hZ hA hP hD hS (ct_X8_wipe l D y a' Y ) rfl (by decide +kernel) (modW_fst _ _ _ _) rfl gL_law_X8_wipe rfl (by decide +kernel) ⟨by decide, by decide⟩ ⟨rfl, rfl⟩ (kb := 1) rfl (q0 := 0) (ci := 8) rfl rfl rfl rfl hl.1 rfl (Nat.le_of_ble_eq_true rfl) hcr dL_law_547 (fun H locs hP hD hS => ?_)
  obtain ⟨heq, o1, k1, hJ1⟩ := jr_wipe hJ
  exact lv_icmp_eq (tgt := 627) hx hb dL_law_550 (by decide) (fun _ => kk o1 k1 _ _ _ H locs hJ1 hP hD hS) (fun q => absurd heq q)
set_option maxHeartbeats 4000000 in
set_option maxRecDepth 20000 in
theorem lw_c17 (h : LH p s m c b L xs D y A) (hP : va_P D vwCl ([jetW y a bb T Z, modW y a' Y] : List va_W).flatten H) (hD : va_D A ([jetW y a bb T Z, modW y a' Y] : List va_W).flatten) (hS : va_S A s.heap H locs) (hl : lv_has ls 4 [(3, .int (nI i)), (2, .ref (a' 0)), (1, .ref (a 0)), (0, .ref b)]) (hi : i + 3 ≤ L) (hJ : JR o k T Z Y) (hcr : cells ≤ room_1.cells ∧ slots ≤ room_1.slots) (kk : LK p l e s m below meth c b D y A a bb a' cells slots Q ls) : W p l e room_1 s m #[Value.ref b] below meth c H locs cells slots Q (F0 m 555 ls []) := by
  obtain ⟨hx, hb, hml, hown, hts, hE, hZ, hA, hX, hbl, hbA, hL, hcl⟩ := h
  refine lv_aload_n hx hb dL_law_555 rfl (lv_at hl 2 rfl) ?_
  refine jVi (n := 0) (is := [0]) (bs' := [jetW y a bb T Z, modW y a' Y]) hx hb hml hown hts hE hZ hA hP hD hS ((ct_X7_fault l D y a bb T Z (JR_pad hJ)).pack (w := jetW y a bb T Z) (w' := jetW y a bb T Z) rfl rfl) rfl (by decide +kernel) (jetW_fst _ _ _ _ _ _ _) rfl gL_law_X7_fault rfl (by decide +kernel) ⟨by decide, by decide⟩ ⟨rfl, rfl⟩ (kb := 0) rfl (q0 := 0) (ci := 7) rfl rfl rfl rfl hl.1 rfl (Nat.le_of_ble_eq_true rfl) hcr dL_law_556 (fun H locs hP hD hS => ?_)
  refine lv_aload_n hx hb dL_law_559 rfl (lv_at hl 1 rfl) ?_
  refine jVi (n := 0) (is := [1]) (bs' := [jetW y a bb T Z, modW y a' (sv 0 (sv 7 Y ((fo Y).2.1)) ((fo Y).2.2))]) hx hb hml hown hts hE hZ hA hP hD hS (ct_X8_fault l D y a' Y (JR_ln hJ)) rfl (by decide +kernel) (modW_fst _ _ _ _) rfl gL_law_X8_fault rfl (by decide +kernel) ⟨by decide, by decide⟩ ⟨rfl, rfl⟩ (kb := 1) rfl (q0 := 0) (ci := 8) rfl rfl rfl rfl hl.1 rfl (Nat.le_of_ble_eq_true rfl) hcr dL_law_560 (fun H locs hP hD hS => ?_)
  obtain ⟨heq, o1, k1, hJ1⟩ := jr_fault hJ
  exact lv_icmp_eq (tgt := 627) hx hb dL_law_563 (by decide) (fun _ => kk o1 k1 _ _ _ H locs hJ1 hP hD hS) (fun q => absurd heq q)
set_option maxHeartbeats 4000000 in
set_option maxRecDepth 20000 in
theorem lw_c18 (h : LH p s m c b L xs D y A) (hP : va_P D vwCl ([jetW y a bb T Z, modW y a' Y] : List va_W).flatten H) (hD : va_D A ([jetW y a bb T Z, modW y a' Y] : List va_W).flatten) (hS : va_S A s.heap H locs) (hl : lv_has ls 4 [(3, .int (nI i)), (2, .ref (a' 0)), (1, .ref (a 0)), (0, .ref b)]) (hi : i + 3 ≤ L) (hJ : JR o k T Z Y) (hcr : cells ≤ room_1.cells ∧ slots ≤ room_1.slots) (kk : LK p l e s m below meth c b D y A a bb a' cells slots Q ls) : W p l e room_1 s m #[Value.ref b] below meth c H locs cells slots Q (F0 m 568 ls []) := by
  obtain ⟨hx, hb, hml, hown, hts, hE, hZ, hA, hX, hbl, hbA, hL, hcl⟩ := h
  rcases k with _ | k
  · refine lv_aload_n hx hb dL_law_568 rfl (lv_at hl 2 rfl) ?_
    refine jVi (n := 0) (is := [0]) (bs' := [jetW y a bb T Z, modW y a' Y]) hx hb hml hown hts hE hZ hA hP hD hS ((ct_X7_undo0 l D y a bb T Z (hJ.2.2.1.2.2.2.1.trans nI_0)).pack (w := jetW y a bb T Z) (w' := jetW y a bb T Z) rfl rfl) rfl (by decide +kernel) (jetW_fst _ _ _ _ _ _ _) rfl gL_law_X7_undo rfl (by decide +kernel) ⟨by decide, by decide⟩ ⟨rfl, rfl⟩ (kb := 0) rfl (q0 := 0) (ci := 7) rfl rfl rfl rfl hl.1 rfl (Nat.le_of_ble_eq_true rfl) hcr dL_law_569 (fun H locs hP hD hS => ?_)
    refine lv_aload_n hx hb dL_law_572 rfl (lv_at hl 1 rfl) ?_
    refine jVi (n := 0) (is := [1]) (bs' := [jetW y a bb T Z, modW y a' (sv 1 (sv 0 Y (m_X8_undo_Y_0 Y)) (m_X8_undo_Y_1 Y))]) hx hb hml hown hts hE hZ hA hP hD hS (ct_X8_undo l D y a' Y (JR_st hJ)) rfl (by decide +kernel) (modW_fst _ _ _ _) rfl gL_law_X8_undo rfl (by decide +kernel) ⟨by decide, by decide⟩ ⟨rfl, rfl⟩ (kb := 1) rfl (q0 := 0) (ci := 8) rfl rfl rfl rfl hl.1 rfl (Nat.le_of_ble_eq_true rfl) hcr dL_law_573 (fun H locs hP hD hS => ?_)
    obtain ⟨heq, o1, k1, hJ1⟩ := jr_undo0 hJ
    exact lv_icmp_eq (tgt := 627) hx hb dL_law_576 (by decide) (fun _ => kk o1 k1 _ _ _ H locs hJ1 hP hD hS) (fun q => absurd heq q)
  · refine lv_aload_n hx hb dL_law_568 rfl (lv_at hl 2 rfl) ?_
    refine jVi (n := 0) (is := [0]) (bs' := [jetW y a bb (sv 1 T (m_X7_undo_T_1 T)) (m_X7_undo_Z Z ((o + k) % 6)), modW y a' Y]) hx hb hml hown hts hE hZ hA hP hD hS ((ct_X7_undo1 l D y a bb T Z o k ((o + k) % 6) hJ.2.2.1.2.2.1 hJ.2.2.1.2.2.2.1 hJ.2.2.1.1 (by have := hJ.2.2.1.2.1; omega) rfl hJ.2.1).pack (w := jetW y a bb T Z) (w' := jetW y a bb (sv 1 T (m_X7_undo_T_1 T)) (m_X7_undo_Z Z ((o + k) % 6))) rfl rfl) rfl (by decide +kernel) (jetW_fst _ _ _ _ _ _ _) rfl gL_law_X7_undo rfl (by decide +kernel) ⟨by decide, by decide⟩ ⟨rfl, rfl⟩ (kb := 0) rfl (q0 := 0) (ci := 7) rfl rfl rfl rfl hl.1 rfl (Nat.le_of_ble_eq_true rfl) hcr dL_law_569 (fun H locs hP hD hS => ?_)
    refine lv_aload_n hx hb dL_law_572 rfl (lv_at hl 1 rfl) ?_
    refine jVi (n := 0) (is := [1]) (bs' := [jetW y a bb (sv 1 T (m_X7_undo_T_1 T)) (m_X7_undo_Z Z ((o + k) % 6)), modW y a' (sv 1 (sv 0 Y (m_X8_undo_Y_0 Y)) (m_X8_undo_Y_1 Y))]) hx hb hml hown hts hE hZ hA hP hD hS (ct_X8_undo l D y a' Y (JR_st hJ)) rfl (by decide +kernel) (modW_fst _ _ _ _) rfl gL_law_X8_undo rfl (by decide +kernel) ⟨by decide, by decide⟩ ⟨rfl, rfl⟩ (kb := 1) rfl (q0 := 0) (ci := 8) rfl rfl rfl rfl hl.1 rfl (Nat.le_of_ble_eq_true rfl) hcr dL_law_573 (fun H locs hP hD hS => ?_)
    obtain ⟨heq, o1, k1, hJ1⟩ := jr_undo1 hJ rfl
    exact lv_icmp_eq (tgt := 627) hx hb dL_law_576 (by decide) (fun _ => kk o1 k1 _ _ _ H locs hJ1 hP hD hS) (fun q => absurd heq q)
set_option maxHeartbeats 4000000 in
set_option maxRecDepth 20000 in
theorem lw_c19 (h : LH p s m c b L xs D y A) (hP : va_P D vwCl ([jetW y a bb T Z, modW y a' Y] : List va_W).flatten H) (hD : va_D A ([jetW y a bb T Z, modW y a' Y] : List va_W).flatten) (hS : va_S A s.heap H locs) (hl : lv_has ls 4 [(3, .int (nI i)), (2, .ref (a' 0)), (1, .ref (a 0)), (0, .ref b)]) (hi : i + 3 ≤ L) (hJ : JR o k T Z Y) (hcr : cells ≤ room_1.cells ∧ slots ≤ room_1.slots) (kk : LK p l e s m below meth c b D y A a bb a' cells slots Q ls) : W p l e room_1 s m #[Value.ref b] below meth c H locs cells slots Q (F0 m 581 ls []) := by
  obtain ⟨hx, hb, hml, hown, hts, hE, hZ, hA, hX, hbl, hbA, hL, hcl⟩ := h
  refine lv_aload_n hx hb dL_law_581 rfl (lv_at hl 2 rfl) ?_
  refine lv_aload_n hx hb dL_law_582 rfl (lv_at hl 3 rfl) ?_
  refine lv_iload_n hx hb dL_law_583 rfl (lv_at hl 0 rfl) ?_
  refine lv_iconst (v := 1) hx hb dL_law_584 (by decide) ?_
  refine lv_iadd hx hb dL_law_585 ?_
  refine va_sld hx hb hX hbl hbA hS (lw_in1 hi hL) dL_law_586 ?_
  refine jVi (n := 1) (is := [0]) (bs' := [jetW y a bb (sv 4 T (m_X7_save_T_4 T (xs (nI i + 1).toNatClampNeg))) (m_X7_save_Z Z (xs (nI i + 1).toNatClampNeg)), modW y a' Y]) hx hb hml hown hts hE hZ hA hP hD hS ((ct_X7_save l D y a bb T Z  (xs (nI i + 1).toNatClampNeg) hJ.2.1).pack (w := jetW y a bb T Z) (w' := jetW y a bb (sv 4 T (m_X7_save_T_4 T (xs (nI i + 1).toNatClampNeg))) (m_X7_save_Z Z (xs (nI i + 1).toNatClampNeg))) rfl rfl) rfl (by decide +kernel) (jetW_fst _ _ _ _ _ _ _) rfl gL_law_X7_save rfl (by decide +kernel) ⟨by decide, by decide⟩ ⟨rfl, rfl⟩ (kb := 0) rfl (q0 := 0) (ci := 7) rfl rfl rfl rfl hl.1 rfl (Nat.le_of_ble_eq_true rfl) hcr dL_law_587 (fun H locs hP hD hS => ?_)
  refine lv_aload_n hx hb dL_law_590 rfl (lv_at hl 1 rfl) ?_
  refine lv_aload_n hx hb dL_law_591 rfl (lv_at hl 3 rfl) ?_
  refine lv_iload_n hx hb dL_law_592 rfl (lv_at hl 0 rfl) ?_
  refine lv_iconst (v := 1) hx hb dL_law_593 (by decide) ?_
  refine lv_iadd hx hb dL_law_594 ?_
  refine va_sld hx hb hX hbl hbA hS (lw_in1 hi hL) dL_law_595 ?_
  refine jVi (n := 1) (is := [1]) (bs' := [jetW y a bb (sv 4 T (m_X7_save_T_4 T (xs (nI i + 1).toNatClampNeg))) (m_X7_save_Z Z (xs (nI i + 1).toNatClampNeg)), modW y a' (sv 6 (sv 5 Y (m_X8_save_Y_5 Y (xs (nI i + 1).toNatClampNeg))) (m_X8_save_Y_6 Y (xs (nI i + 1).toNatClampNeg)))]) hx hb hml hown hts hE hZ hA hP hD hS (ct_X8_save l D y a' Y  (xs (nI i + 1).toNatClampNeg)) rfl (by decide +kernel) (modW_fst _ _ _ _) rfl gL_law_X8_save rfl (by decide +kernel) ⟨by decide, by decide⟩ ⟨rfl, rfl⟩ (kb := 1) rfl (q0 := 0) (ci := 8) rfl rfl rfl rfl hl.1 rfl (Nat.le_of_ble_eq_true rfl) hcr dL_law_596 (fun H locs hP hD hS => ?_)
  obtain ⟨heq, o1, k1, hJ1⟩ := jr_save hJ (xs (nI i + 1).toNatClampNeg)
  exact lv_icmp_eq (tgt := 627) hx hb dL_law_599 (by decide) (fun _ => kk o1 k1 _ _ _ H locs hJ1 hP hD hS) (fun q => absurd heq q)
set_option maxHeartbeats 4000000 in
set_option maxRecDepth 20000 in
theorem lw_c20 (h : LH p s m c b L xs D y A) (hP : va_P D vwCl ([jetW y a bb T Z, modW y a' Y] : List va_W).flatten H) (hD : va_D A ([jetW y a bb T Z, modW y a' Y] : List va_W).flatten) (hS : va_S A s.heap H locs) (hl : lv_has ls 4 [(3, .int (nI i)), (2, .ref (a' 0)), (1, .ref (a 0)), (0, .ref b)]) (hi : i + 3 ≤ L) (hJ : JR o k T Z Y) (hcr : cells ≤ room_1.cells ∧ slots ≤ room_1.slots) (kk : LK p l e s m below meth c b D y A a bb a' cells slots Q ls) : W p l e room_1 s m #[Value.ref b] below meth c H locs cells slots Q (F0 m 604 ls []) := by
  obtain ⟨hx, hb, hml, hown, hts, hE, hZ, hA, hX, hbl, hbA, hL, hcl⟩ := h
  refine lv_aload_n hx hb dL_law_604 rfl (lv_at hl 2 rfl) ?_
  refine lv_aload_n hx hb dL_law_605 rfl (lv_at hl 3 rfl) ?_
  refine lv_iload_n hx hb dL_law_606 rfl (lv_at hl 0 rfl) ?_
  refine lv_iconst (v := 1) hx hb dL_law_607 (by decide) ?_
  refine lv_iadd hx hb dL_law_608 ?_
  refine va_sld hx hb hX hbl hbA hS (lw_in1 hi hL) dL_law_609 ?_
  refine jVi (n := 1) (is := [0]) (bs' := [jetW y a bb (sv 1 T (m_X7_restore_T_1 T (xs (nI i + 1).toNatClampNeg))) (m_X7_restore_Z T Z ((o + k) % 6) (xs (nI i + 1).toNatClampNeg)), modW y a' Y]) hx hb hml hown hts hE hZ hA hP hD hS ((ct_X7_restore l D y a bb T Z o k ((o + k) % 6) (xs (nI i + 1).toNatClampNeg) hJ.2.2.1.2.2.1 hJ.2.2.1.2.2.2.1 hJ.2.2.1.1 hJ.2.2.1.2.1 rfl hJ.2.1).pack (w := jetW y a bb T Z) (w' := jetW y a bb (sv 1 T (m_X7_restore_T_1 T (xs (nI i + 1).toNatClampNeg))) (m_X7_restore_Z T Z ((o + k) % 6) (xs (nI i + 1).toNatClampNeg))) rfl rfl) rfl (by decide +kernel) (jetW_fst _ _ _ _ _ _ _) rfl gL_law_X7_restore rfl (by decide +kernel) ⟨by decide, by decide⟩ ⟨rfl, rfl⟩ (kb := 0) rfl (q0 := 0) (ci := 7) rfl rfl rfl rfl hl.1 rfl (Nat.le_of_ble_eq_true rfl) hcr dL_law_610 (fun H locs hP hD hS => ?_)
  refine lv_aload_n hx hb dL_law_613 rfl (lv_at hl 1 rfl) ?_
  refine lv_aload_n hx hb dL_law_614 rfl (lv_at hl 3 rfl) ?_
  refine lv_iload_n hx hb dL_law_615 rfl (lv_at hl 0 rfl) ?_
  refine lv_iconst (v := 1) hx hb dL_law_616 (by decide) ?_
  refine lv_iadd hx hb dL_law_617 ?_
  refine va_sld hx hb hX hbl hbA hS (lw_in1 hi hL) dL_law_618 ?_
  refine jVi (n := 1) (is := [1]) (bs' := [jetW y a bb (sv 1 T (m_X7_restore_T_1 T (xs (nI i + 1).toNatClampNeg))) (m_X7_restore_Z T Z ((o + k) % 6) (xs (nI i + 1).toNatClampNeg)), modW y a' (sv 4 (sv 2 (sv 1 (sv 0 Y (m_X8_restore_Y_0 Y (xs (nI i + 1).toNatClampNeg))) (m_X8_restore_Y_1 Y (xs (nI i + 1).toNatClampNeg))) (m_X8_restore_Y_2 Y (xs (nI i + 1).toNatClampNeg))) (m_X8_restore_Y_4 Y (xs (nI i + 1).toNatClampNeg)))]) hx hb hml hown hts hE hZ hA hP hD hS (ct_X8_restore l D y a' Y  (xs (nI i + 1).toNatClampNeg) (JR_st hJ)) rfl (by decide +kernel) (modW_fst _ _ _ _) rfl gL_law_X8_restore rfl (by decide +kernel) ⟨by decide, by decide⟩ ⟨rfl, rfl⟩ (kb := 1) rfl (q0 := 0) (ci := 8) rfl rfl rfl rfl hl.1 rfl (Nat.le_of_ble_eq_true rfl) hcr dL_law_619 (fun H locs hP hD hS => ?_)
  obtain ⟨heq, o1, k1, hJ1⟩ := jr_restore hJ rfl (xs (nI i + 1).toNatClampNeg)
  exact lv_icmp_eq (tgt := 627) hx hb dL_law_622 (by decide) (fun _ => kk o1 k1 _ _ _ H locs hJ1 hP hD hS) (fun q => absurd heq q)
end LW
