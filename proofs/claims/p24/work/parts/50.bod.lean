/-! the law from behind the making of the object to its end -/
theorem rg_of {x : Int32} {lo hi : Nat} (n : Nat) (h1 : lo ≤ n) (h2 : n ≤ hi) (h : x = nI n) : rg x lo hi := ⟨n, h1, h2, h⟩
theorem SI_0 : SI 0 iX := by
  have hrg : rgE iX := by
    refine ⟨rg_of 14 ?_ ?_ ?_, rg_of 4 ?_ ?_ ?_, rg_of 12 ?_ ?_ ?_, rg_of 8 ?_ ?_ ?_, rg_of 900 ?_ ?_ ?_, rg_of 120 ?_ ?_ ?_, rg_of 12 ?_ ?_ ?_, rg_of 0 ?_ ?_ ?_, rg_of 0 ?_ ?_ ?_, rg_of 0 ?_ ?_ ?_, rg_of 0 ?_ ?_ ?_, rg_of 0 ?_ ?_ ?_, rg_of 0 ?_ ?_ ?_, rg_of 0 ?_ ?_ ?_, rg_of 1000 ?_ ?_ ?_⟩ <;> decide
  exact ⟨0, 0, by omega, by omega, rfl, rfl, hrg, Or.inl rfl, rfl, ⟨0, 0, 0, 0, by omega, by omega, by omega, by omega, rfl, rfl, rfl, rfl, rfl⟩, fun h => absurd h (by decide), ⟨fun _ => 0, 0, Nat.le_refl 0, rfl, rfl, fun j hj => rfl, fun i hi => absurd hi (Nat.not_lt_zero _), fun j hj => Nat.zero_le _⟩⟩
set_option maxHeartbeats 8000000 in
set_option maxRecDepth 20000 in
theorem lw_body {p : Program} {l : Launch} {e : Env} {s : State} {m : MethodId} {below : List Frame} {meth : Method} {c : Code} {H : Heap} {locs : List Loc} {cells slots : Nat} {Q : State → Prop} {ls : Array Slot} {A : Nat → Prop} {D : va_G} {y : Nat → ClassId} {a : Nat → Nat} {bb : Nat → Nat → Nat} {T : Nat → Nat → Int32} {Z : Nat → Nat → Nat → Int32} {b L : Nat} {xs : Nat → Int32} (hB : OBd p s m #[Value.ref b] c cL_law 8 wsL_law D y A room_1 cells slots) (hX : va_X b L xs s s.heap) (hbl : b < s.heap.size) (hbA : ¬ A b) (hL : L ≤ 260) (fin : ∀ (H : Heap) (locs : List Loc) (ls : Array Slot), va_S A s.heap H locs → W p l e room_1 s m #[Value.ref b] below meth c H locs cells slots Q (F0 m 406 ls [.int (nI 1)])) (hW : OSt 0 T Z iX 0 0 iX iX) (h0 : T 1 2 = 0) (hP : va_P D vwCl ([jetW y a bb T Z] : List va_W).flatten H) (hD : va_D A ([jetW y a bb T Z] : List va_W).flatten) (hS : va_S A s.heap H locs) (hl : lv_has ls 8 [(1, .ref (a 0)), (0, .ref b)]) : W p l e room_1 s m #[Value.ref b] below meth c H locs cells slots Q (F0 m 8 ls []) := by
  have hx := hB.1
  have hb := hB.2.1
  have hsp0 : ¬ r_X1_isSpent iX = 0 := by decide
  have hbest0 : bF iX 11 0 (-6) 301 = -6 := bF_none (fun v => uP_spent (X := sv 1 iX (upd (iX 1) 3 v)) (fun q => hsp0 q) 0) 11 0 (-6) 301
  have hleast0 : lV iX = -6 := lB_none (Z := fun _ => iX) (fun v => uP_spent (X := sv 1 iX (upd (iX 1) 5 v)) (fun q => hsp0 q) 1) 101 0
  refine lv_aload_n hx hb dL_law_8 rfl (lv_at hl 0 rfl) ?_
  refine lk_undo_no hB hP hD hS hW h0 gL_law_X7_undo hl.1 (Nat.le_of_ble_eq_true rfl) dL_law_9 (fun H locs hP hD hS => ?_)
  refine W.eq (g2 := F0 m 12 ls [.int (-5)]) (by rw [show r_X7_undo0 = -5 from rfl]) ?_
  refine lv_bipush (v := (-5)) hx hb dL_law_12 (by decide) ?_
  refine lv_icmp_ne (tgt := 74) hx hb dL_law_14 (by decide) (fun q => absurd rfl q) (fun _ => ?_)
  refine lv_aload_n hx hb dL_law_17 rfl (lv_at hl 0 rfl) ?_
  refine lv_iconst (v := (nI 0)) hx hb dL_law_18 (by decide) ?_
  refine lk_rest0_no hB hP hD hS hW rfl gL_law_X7_restore hl.1 (Nat.le_of_ble_eq_true rfl) dL_law_19 (fun H locs hP hD hS => ?_)
  refine lv_bipush (v := (-5)) hx hb dL_law_22 (by decide) ?_
  refine lv_icmp_ne (tgt := 74) hx hb dL_law_24 (by decide) (fun q => absurd rfl q) (fun _ => ?_)
  refine lv_aload_n hx hb dL_law_27 rfl (lv_at hl 0 rfl) ?_
  refine lk_until hB hP hD hS hW (BI_of SI_0) gL_law_X7_untilRunning hl.1 (Nat.le_of_ble_eq_true rfl) dL_law_28 (fun Z H locs hW hP hD hS => ?_)
  refine W.eq (g2 := F0 m 31 ls [.int (-6)]) (by rw [uP_spent hsp0 1]) ?_
  refine lv_bipush (v := (-6)) hx hb dL_law_31 (by decide) ?_
  refine lv_icmp_ne (tgt := 74) hx hb dL_law_33 (by decide) (fun q => absurd rfl q) (fun _ => ?_)
  refine lv_aload_n hx hb dL_law_36 rfl (lv_at hl 0 rfl) ?_
  refine lk_best hB hP hD hS hW (BI_of SI_0) gL_law_X7_bestFuel hl.1 (Nat.le_of_ble_eq_true rfl) dL_law_37 (fun Z H locs hW hP hD hS => ?_)
  refine W.eq (g2 := F0 m 40 ls [.int (-6)]) (by rw [hbest0]) ?_
  refine lv_bipush (v := (-6)) hx hb dL_law_40 (by decide) ?_
  refine lv_icmp_ne (tgt := 74) hx hb dL_law_42 (by decide) (fun q => absurd rfl q) (fun _ => ?_)
  refine lv_aload_n hx hb dL_law_45 rfl (lv_at hl 0 rfl) ?_
  refine lk_least hB hP hD hS hW (BI_of SI_0) gL_law_X7_leastBattery hl.1 (Nat.le_of_ble_eq_true rfl) dL_law_46 (fun Z H locs hW hP hD hS => ?_)
  refine W.eq (g2 := F0 m 49 ls [.int (-6)]) (by rw [hleast0]) ?_
  refine lv_bipush (v := (-6)) hx hb dL_law_49 (by decide) ?_
  refine lv_icmp_ne (tgt := 74) hx hb dL_law_51 (by decide) (fun q => absurd rfl q) (fun _ => ?_)
  refine lv_aload_n hx hb dL_law_54 rfl (lv_at hl 0 rfl) ?_
  refine lv_iconst (v := (nI 2)) hx hb dL_law_55 (by decide) ?_
  have hI1 : SI 0 (sv 1 iX (upd (iX 1) 3 (nI 2))) := SI_eng SI_0 (rgEu_19 (SI_rg SI_0) (rgn (n := 2) (by omega) (by omega))) (by decide) (by decide)
  refine lk_fuel hB hP hD hS hW (n := 2) (by omega) (SI_bo hI1) gL_law_X7_fuel hl.1 (Nat.le_of_ble_eq_true rfl) dL_law_56 (fun T Z H locs hW hP hD hS => ?_)
  refine W.eq (g2 := F0 m 59 ls [.int (nI 0)]) (by rw [show iX 1 3 = nI 0 from rfl]) ?_
  refine lv_if_ne (tgt := 74) hx hb dL_law_59 (by decide) (fun q => absurd (show (nI 0) = (0 : Int32) from congrArg nI (show 0 = 0 by omega)) q) (fun _ => ?_)
  refine lv_aload_n hx hb dL_law_62 rfl (lv_at hl 0 rfl) ?_
  refine lv_iconst (v := (nI 1)) hx hb dL_law_63 (by decide) ?_
  have hI2 : SI 0 (sv 1 (sv 1 iX (upd (iX 1) 3 (nI 2))) (upd ((sv 1 iX (upd (iX 1) 3 (nI 2))) 1) 6 (nI 1))) := SI_eng hI1 (rgEu_21 (SI_rg hI1) (rgn (n := 1) (by omega) (by omega))) (by decide) (by decide)
  refine lk_spark_ok hB hP hD hS hW (v0 := nI 1) (Or.inr rfl) (show ¬ iX 1 6 = nI 1 by decide) (SI_bo hI2) gL_law_X7_spark hl.1 (Nat.le_of_ble_eq_true rfl) dL_law_64 (fun T Z H locs hW hP hD hS => ?_)
  refine W.eq (g2 := F0 m 67 ls [.int (nI 0)]) (by rw [show (sv 1 iX (upd (iX 1) 3 (nI 2))) 1 4 = nI 0 from rfl]) ?_
  obtain ⟨X, hI, hW⟩ : ∃ X, SI 0 X ∧ OSt 1 T Z X 0 0 iX iX := ⟨_, hI2, hW⟩
  refine lv_if_ne (tgt := 74) hx hb dL_law_67 (by decide) (fun q => absurd (show (nI 0) = (0 : Int32) from congrArg nI (show 0 = 0 by omega)) q) (fun _ => ?_)
  refine lv_iconst (v := (nI 1)) hx hb dL_law_70 (by decide) ?_
  refine lv_goto (tgt := 75) hx hb dL_law_71 (by decide) ?_
  refine lv_istore_n (lv' := [(2, .int (nI 1)), (1, .ref (a 0)), (0, .ref b)]) hx hb dL_law_75 rfl hl (by decide) rfl (fun ls hl => ?_)
  refine lv_iconst (v := (nI 0)) hx hb dL_law_76 (by decide) ?_
  refine lv_istore_n (lv' := [(3, .int (nI 0)), (2, .int (nI 1)), (1, .ref (a 0)), (0, .ref b)]) hx hb dL_law_77 rfl hl (by decide) rfl (fun ls hl => ?_)
  refine jLoop (fun nn H locs g => ∃ (i t : Nat) (X : Nat → Nat → Int32) (T : Nat → Nat → Int32) (Z : Nat → Nat → Nat → Int32) (ls : Array Slot), i + nn = 40 ∧ t ≤ 40 * i ∧ SI t X ∧ OSt 1 T Z X 0 0 iX iX ∧ g = F0 m 78 ls [] ∧ lv_has ls 8 [(3, .int (nI i)), (2, .int (nI 1)), (1, .ref (a 0)), (0, .ref b)] ∧ va_P D vwCl ([jetW y a bb T Z] : List va_W).flatten H ∧ va_D A ([jetW y a bb T Z] : List va_W).flatten ∧ va_S A s.heap H locs) 40 ?_ ⟨0, 0, X, T, Z, _, by omega, by omega, hI, hW, rfl, lv_sub hl [0, 1, 2, 3] rfl, hP, hD, hS⟩
  clear hW hP hD hS hl hI
  rintro nn ih H locs _ ⟨i, t, X, T, Z, ls, hin, hti, hI, hW, rfl, hl, hP, hD, hS⟩
  rcases nn with _ | nn
  · refine lv_iload_n hx hb dL_law_78 rfl (lv_at hl 0 rfl) ?_
    refine lv_bipush (v := (nI 40)) hx hb dL_law_79 (by decide) ?_
    refine lv_icmp_ge (tgt := 126) hx hb dL_law_81 (by decide) (fun _ => ?_) (fun q => absurd (show (nI 40) ≤ (nI i) from nI_le (a := 40) (b := i) (by omega) (by omega)) q)
    refine lv_aload_n hx hb dL_law_126 rfl (lv_at hl 2 rfl) ?_
    refine lv_iconst (v := (nI 1)) hx hb dL_law_127 (by decide) ?_
    refine lk_save1 hB hP hD hS hW gL_law_X7_save hl.1 (Nat.le_of_ble_eq_true rfl) dL_law_128 (fun T Z H locs hW hP hD hS => ?_)
    refine W.eq (g2 := F0 m 131 ls [.int (nI t)]) (by rw [SI_t hI]) ?_
    obtain ⟨sp, he, st, po, ba, sk, cr, fl, un, g, hot, run, lost, e0, e1, e2, e3, k, hbd, qsp, qhe, qst, qpo, qba, qsk, qcr, qfl, qun, qg, qhot, qrun, qnw, qlost, qt, qk, qe0, qe1, qe2, qe3, qlg, qc0, qc1, qc2, qc3⟩ := SI_all hI
    refine lv_istore_n (lv' := [(3, .int (nI t)), (2, .int (nI 1)), (1, .ref (a 0)), (0, .ref b)]) hx hb dL_law_131 rfl hl (by decide) rfl (fun ls hl => ?_)
    refine lv_aload_n hx hb dL_law_132 rfl (lv_at hl 2 rfl) ?_
    refine lv_iconst (v := (nI 0)) hx hb dL_law_133 (by decide) ?_
    refine lk_engine hB hP hD hS hW (v := (nI sp)) ((en_v0 (OSt_X hW)).trans qsp) gL_law_X7_engine hl.1 (Nat.le_of_ble_eq_true rfl) dL_law_134 (fun H locs hP hD hS => ?_)
    refine lv_istore (lv' := [(4, .int (nI sp)), (3, .int (nI t)), (2, .int (nI 1)), (1, .ref (a 0)), (0, .ref b)]) hx hb dL_law_137 hl (by decide) rfl (fun ls hl => ?_)
    refine lv_aload_n hx hb dL_law_139 rfl (lv_at hl 3 rfl) ?_
    refine lk_best hB hP hD hS hW (BI_of hI) gL_law_X7_bestFuel hl.1 (Nat.le_of_ble_eq_true rfl) dL_law_140 (fun Z H locs hW hP hD hS => ?_)
    obtain ⟨bv, ebv, hbv⟩ : ∃ v, bF X 11 0 (-6) 301 = v ∧ (v = -6 ∨ ∃ q : Nat, 0 ≤ q ∧ q < 0 + 11 ∧ v = nI q ∧ ¬ bR X (nI q) = -6) := ⟨_, rfl, bF_val 11 0 (-6) 301⟩
    refine W.eq (g2 := F0 m 143 ls [.int bv]) (by rw [ebv]) ?_
    refine lv_istore (lv' := [(5, .int bv), (4, .int (nI sp)), (3, .int (nI t)), (2, .int (nI 1)), (1, .ref (a 0)), (0, .ref b)]) hx hb dL_law_143 hl (by decide) rfl (fun ls hl => ?_)
    refine lv_aload_n hx hb dL_law_145 rfl (lv_at hl 4 rfl) ?_
    refine lk_least hB hP hD hS hW (BI_of hI) gL_law_X7_leastBattery hl.1 (Nat.le_of_ble_eq_true rfl) dL_law_146 (fun Z H locs hW hP hD hS => ?_)
    obtain ⟨lv, elv, hlv⟩ : ∃ v, lV X = v ∧ (v = -6 ∨ ∃ q : Nat, 0 ≤ q ∧ q < 0 + 101 ∧ v = nI (10 * q) ∧ ¬ uB X (nI (10 * q)) = -6 ∧ ∀ r, 0 ≤ r → r < q → uB X (nI (10 * r)) = -6) := ⟨_, rfl, lB_val (Z := fun _ => X) 101 0⟩
    refine W.eq (g2 := F0 m 149 ls [.int lv]) (by rw [elv]) ?_
    refine lv_istore (lv' := [(6, .int lv), (5, .int bv), (4, .int (nI sp)), (3, .int (nI t)), (2, .int (nI 1)), (1, .ref (a 0)), (0, .ref b)]) hx hb dL_law_149 hl (by decide) rfl (fun ls hl => ?_)
    refine lv_aload_n hx hb dL_law_151 rfl (lv_at hl 5 rfl) ?_
    refine lk_until hB hP hD hS hW (BI_of hI) gL_law_X7_untilRunning hl.1 (Nat.le_of_ble_eq_true rfl) dL_law_152 (fun Z H locs hW hP hD hS => ?_)
    obtain ⟨uv, euv, hFR⟩ : ∃ v, (uP 1 301 0 X).1 = v ∧ FR 300 X v := ⟨_, rfl, until_FR (SI_rg hI)⟩
    refine W.eq (g2 := F0 m 155 ls [.int uv]) (by rw [euv]) ?_
    refine lv_istore (lv' := [(7, .int uv), (6, .int lv), (5, .int bv), (4, .int (nI sp)), (3, .int (nI t)), (2, .int (nI 1)), (1, .ref (a 0)), (0, .ref b)]) hx hb dL_law_155 hl (by decide) rfl (fun ls hl => ?_)
    refine lv_iload_n hx hb dL_law_157 rfl (lv_at hl 5 rfl) ?_
    refine lv_if_eq (tgt := 227) hx hb dL_law_158 (by decide) (fun q => absurd q (show ¬ (nI 1) = (0 : Int32) from fun z => absurd ((nI_eq (a := 1) (b := 0) (by omega) (by omega)).mp z) (by omega))) (fun _ => ?_)
    refine lv_aload_n hx hb dL_law_161 rfl (lv_at hl 6 rfl) ?_
    refine lcS (n := 1) (As := [.ref (a 0)]) hB hP hD hS (ct_L_isEngine l D y a bb T Z X 0 1 iX X 1 t hI (by omega) hW) gL_law_L_isEngine rfl (by decide +kernel) ⟨by decide, by decide⟩ ⟨rfl, rfl⟩ rfl hl.1 rfl (Nat.le_of_ble_eq_true rfl) dL_law_162 (fun T Z H locs hG hP hD hS => ?_)
    have hW := hG
    refine lv_if_eq (tgt := 227) hx hb dL_law_165 (by decide) (fun q => absurd q (show ¬ (nI 1) = (0 : Int32) from fun z => absurd ((nI_eq (a := 1) (b := 0) (by omega) (by omega)).mp z) (by omega))) (fun _ => ?_)
    refine lv_aload_n hx hb dL_law_168 rfl (lv_at hl 6 rfl) ?_
    refine lcS (n := 1) (As := [.ref (a 0)]) hB hP hD hS (ct_L_areStarts l D y a bb T Z X 0 1 iX X 1 t hI (by omega) hW) gL_law_L_areStarts rfl (by decide +kernel) ⟨by decide, by decide⟩ ⟨rfl, rfl⟩ rfl hl.1 rfl (Nat.le_of_ble_eq_true rfl) dL_law_169 (fun T Z H locs hG hP hD hS => ?_)
    have hW := hG
    refine lv_if_eq (tgt := 227) hx hb dL_law_172 (by decide) (fun q => absurd q (show ¬ (nI 1) = (0 : Int32) from fun z => absurd ((nI_eq (a := 1) (b := 0) (by omega) (by omega)).mp z) (by omega))) (fun _ => ?_)
    refine lv_aload_n hx hb dL_law_175 rfl (lv_at hl 6 rfl) ?_
    refine lv_aload_n hx hb dL_law_176 rfl (lv_at hl 7 rfl) ?_
    refine lv_bipush (v := (nI 41)) hx hb dL_law_177 (by decide) ?_
    refine lk_cell hB hP hD hS hX hbl hbA (by omega) (k := 41) (by omega) gL_law_L_cell hl.1 (Nat.le_of_ble_eq_true rfl) dL_law_179 (fun u H locs hu hP hD hS => ?_)
    refine lcS (n := 2) (As := [.ref (a 0), .int (nI u)]) hB hP hD hS (ct_L_areTicks l D y a bb T Z X 0 1 iX X t u hI (by omega) hu hW) gL_law_L_areTicks rfl (by decide +kernel) ⟨by decide, by decide⟩ ⟨rfl, rfl⟩ rfl hl.1 rfl (Nat.le_of_ble_eq_true rfl) dL_law_182 (fun T Z H locs hG hP hD hS => ?_)
    obtain ⟨n3, hn3, hW⟩ := hG
    have hIn : SI (t + n3) (pT n3 X) := SI_pT n3 t X hI (by omega)
    refine lv_if_eq (tgt := 227) hx hb dL_law_185 (by decide) (fun q => absurd q (show ¬ (nI 1) = (0 : Int32) from fun z => absurd ((nI_eq (a := 1) (b := 0) (by omega) (by omega)).mp z) (by omega))) (fun _ => ?_)
    refine lv_aload_n hx hb dL_law_188 rfl (lv_at hl 6 rfl) ?_
    refine lcS (n := 1) (As := [.ref (a 0)]) hB hP hD hS (ct_L_areStarts l D y a bb T Z (pT n3 X) 1 1 X X 1 (t + n3) hIn (by omega) hW) gL_law_L_areStarts rfl (by decide +kernel) ⟨by decide, by decide⟩ ⟨rfl, rfl⟩ rfl hl.1 rfl (Nat.le_of_ble_eq_true rfl) dL_law_189 (fun T Z H locs hG hP hD hS => ?_)
    have hW := hG
    refine lv_if_eq (tgt := 227) hx hb dL_law_192 (by decide) (fun q => absurd q (show ¬ (nI 1) = (0 : Int32) from fun z => absurd ((nI_eq (a := 1) (b := 0) (by omega) (by omega)).mp z) (by omega))) (fun _ => ?_)
    refine lv_aload_n hx hb dL_law_195 rfl (lv_at hl 6 rfl) ?_
    refine lv_iconst (v := (nI 1)) hx hb dL_law_196 (by decide) ?_
    refine lk_rest1 hB hP hD hS hW rfl gL_law_X7_restore hl.1 (Nat.le_of_ble_eq_true rfl) dL_law_197 (fun T Z H locs hW hP hD hS => ?_)
    refine W.eq (g2 := F0 m 200 ls [.int (nI t)]) (by rw [qt]) ?_
    refine lv_iload_n hx hb dL_law_200 rfl (lv_at hl 4 rfl) ?_
    refine lv_icmp_ne (tgt := 227) hx hb dL_law_201 (by decide) (fun q => absurd (show (nI t) = (nI t) from congrArg nI (show t = t by omega)) q) (fun _ => ?_)
    refine lv_aload_n hx hb dL_law_204 rfl (lv_at hl 6 rfl) ?_
    refine lv_iconst (v := (nI 0)) hx hb dL_law_205 (by decide) ?_
    refine lk_engine hB hP hD hS hW (v := (nI sp)) ((en_v0 (OSt_X hW)).trans qsp) gL_law_X7_engine hl.1 (Nat.le_of_ble_eq_true rfl) dL_law_206 (fun H locs hP hD hS => ?_)
    refine lv_iload hx hb dL_law_209 (lv_at hl 3 rfl) ?_
    refine lv_icmp_ne (tgt := 227) hx hb dL_law_211 (by decide) (fun q => absurd (show (nI sp) = (nI sp) from congrArg nI (show sp = sp by omega)) q) (fun _ => ?_)
    refine lv_aload_n hx hb dL_law_214 rfl (lv_at hl 6 rfl) ?_
    refine lk_until hB hP hD hS hW (BI_of hI) gL_law_X7_untilRunning hl.1 (Nat.le_of_ble_eq_true rfl) dL_law_215 (fun Z H locs hW hP hD hS => ?_)
    refine W.eq (g2 := F0 m 218 ls [.int uv]) (by rw [euv]) ?_
    refine lv_iload hx hb dL_law_218 (lv_at hl 0 rfl) ?_
    refine lv_icmp_ne (tgt := 227) hx hb dL_law_220 (by decide) (fun q => absurd rfl q) (fun _ => ?_)
    refine lv_iconst (v := (nI 1)) hx hb dL_law_223 (by decide) ?_
    refine lv_goto (tgt := 228) hx hb dL_law_224 (by decide) ?_
    refine lv_istore_n (lv' := [(2, .int (nI 1)), (7, .int uv), (6, .int lv), (5, .int bv), (4, .int (nI sp)), (3, .int (nI t)), (1, .ref (a 0)), (0, .ref b)]) hx hb dL_law_228 rfl hl (by decide) rfl (fun ls hl => ?_)
    refine lv_iload_n hx hb dL_law_229 rfl (lv_at hl 0 rfl) ?_
    refine lv_if_eq (tgt := 297) hx hb dL_law_230 (by decide) (fun q => absurd q (show ¬ (nI 1) = (0 : Int32) from fun z => absurd ((nI_eq (a := 1) (b := 0) (by omega) (by omega)).mp z) (by omega))) (fun _ => ?_)
    rcases hbv with rfl | ⟨q1, hq1, hq2, rfl, hq4⟩
    · refine lv_iload hx hb dL_law_233 (lv_at hl 3 rfl) ?_
      refine lv_if_lt (tgt := 297) hx hb dL_law_235 (by decide) (fun _ => ?_) (fun q => absurd (by decide) q)
      refine lv_iload_n hx hb dL_law_297 rfl (lv_at hl 0 rfl) ?_
      refine lv_if_eq (tgt := 365) hx hb dL_law_298 (by decide) (fun q => absurd q (show ¬ (nI 1) = (0 : Int32) from fun z => absurd ((nI_eq (a := 1) (b := 0) (by omega) (by omega)).mp z) (by omega))) (fun _ => ?_)
      rcases hlv with rfl | ⟨q2, hl1, hl2, rfl, hl4, hl5⟩
      · refine lv_iload hx hb dL_law_301 (lv_at hl 2 rfl) ?_
        refine lv_if_lt (tgt := 365) hx hb dL_law_303 (by decide) (fun _ => ?_) (fun q => absurd (by decide) q)
        refine lv_iload_n hx hb dL_law_365 rfl (lv_at hl 0 rfl) ?_
        refine lv_if_eq (tgt := 405) hx hb dL_law_366 (by decide) (fun q => absurd q (show ¬ (nI 1) = (0 : Int32) from fun z => absurd ((nI_eq (a := 1) (b := 0) (by omega) (by omega)).mp z) (by omega))) (fun _ => ?_)
        rcases hFR with ⟨rfl, hu2⟩ | ⟨mu, hu1, rfl, hu3, hu4⟩
        · refine lv_iload hx hb dL_law_369 (lv_at hl 1 rfl) ?_
          refine lv_if_lt (tgt := 378) hx hb dL_law_371 (by decide) (fun _ => ?_) (fun q => absurd (by decide) q)
          refine lv_iconst (v := (nI 0)) hx hb dL_law_378 (by decide) ?_
          refine lv_aload_n hx hb dL_law_379 rfl (lv_at hl 6 rfl) ?_
          refine lk_until hB hP hD hS hW (BI_of hI) gL_law_X7_untilRunning hl.1 (Nat.le_of_ble_eq_true rfl) dL_law_380 (fun Z H locs hW hP hD hS => ?_)
          refine W.eq (g2 := F0 m 383 ls [.int (-6), .int (nI 0)]) (by rw [euv]) ?_
          refine lv_if_lt (tgt := 390) hx hb dL_law_383 (by decide) (fun _ => ?_) (fun q => absurd (by decide) q)
          refine lv_iconst (v := (nI 0)) hx hb dL_law_390 (by decide) ?_
          refine lv_icmp_ne (tgt := 405) hx hb dL_law_391 (by decide) (fun q => absurd (show (nI 0) = (nI 0) from congrArg nI (show 0 = 0 by omega)) q) (fun _ => ?_)
          refine lv_aload_n hx hb dL_law_394 rfl (lv_at hl 6 rfl) ?_
          refine lk_undo hB hP hD hS hW gL_law_X7_undo hl.1 (Nat.le_of_ble_eq_true rfl) dL_law_395 (fun n9 H locs hn9 hS => ?_)
          refine lv_if_lt (tgt := 405) hx hb dL_law_398 (by decide) (fun q => absurd q (show ¬ (nI n9) < (0 : Int32) from nI_nlt (b := 0) (a := n9) (by omega) (by omega))) (fun _ => ?_)
          refine lv_iconst (v := (nI 1)) hx hb dL_law_401 (by decide) ?_
          refine lv_goto (tgt := 406) hx hb dL_law_402 (by decide) ?_
          exact fin H locs ls hS
        · refine lv_iload hx hb dL_law_369 (lv_at hl 1 rfl) ?_
          refine lv_if_lt (tgt := 378) hx hb dL_law_371 (by decide) (fun q => absurd q (show ¬ (nI mu) < (0 : Int32) from nI_nlt (b := 0) (a := mu) (by omega) (by omega))) (fun _ => ?_)
          refine lv_iconst (v := (nI 1)) hx hb dL_law_374 (by decide) ?_
          refine lv_goto (tgt := 379) hx hb dL_law_375 (by decide) ?_
          refine lv_aload_n hx hb dL_law_379 rfl (lv_at hl 6 rfl) ?_
          refine lk_until hB hP hD hS hW (BI_of hI) gL_law_X7_untilRunning hl.1 (Nat.le_of_ble_eq_true rfl) dL_law_380 (fun Z H locs hW hP hD hS => ?_)
          refine W.eq (g2 := F0 m 383 ls [.int (nI mu), .int (nI 1)]) (by rw [euv]) ?_
          refine lv_if_lt (tgt := 390) hx hb dL_law_383 (by decide) (fun q => absurd q (show ¬ (nI mu) < (0 : Int32) from nI_nlt (b := 0) (a := mu) (by omega) (by omega))) (fun _ => ?_)
          refine lv_iconst (v := (nI 1)) hx hb dL_law_386 (by decide) ?_
          refine lv_goto (tgt := 391) hx hb dL_law_387 (by decide) ?_
          refine lv_icmp_ne (tgt := 405) hx hb dL_law_391 (by decide) (fun q => absurd (show (nI 1) = (nI 1) from congrArg nI (show 1 = 1 by omega)) q) (fun _ => ?_)
          refine lv_aload_n hx hb dL_law_394 rfl (lv_at hl 6 rfl) ?_
          refine lk_undo hB hP hD hS hW gL_law_X7_undo hl.1 (Nat.le_of_ble_eq_true rfl) dL_law_395 (fun n9 H locs hn9 hS => ?_)
          refine lv_if_lt (tgt := 405) hx hb dL_law_398 (by decide) (fun q => absurd q (show ¬ (nI n9) < (0 : Int32) from nI_nlt (b := 0) (a := n9) (by omega) (by omega))) (fun _ => ?_)
          refine lv_iconst (v := (nI 1)) hx hb dL_law_401 (by decide) ?_
          refine lv_goto (tgt := 406) hx hb dL_law_402 (by decide) ?_
          exact fin H locs ls hS
      · refine lv_iload hx hb dL_law_301 (lv_at hl 2 rfl) ?_
        refine lv_if_lt (tgt := 365) hx hb dL_law_303 (by decide) (fun q => absurd q (show ¬ (nI (10 * q2)) < (0 : Int32) from nI_nlt (b := 0) (a := 10 * q2) (by omega) (by omega))) (fun _ => ?_)
        refine lv_aload_n hx hb dL_law_306 rfl (lv_at hl 6 rfl) ?_
        refine lv_iload hx hb dL_law_307 (lv_at hl 2 rfl) ?_
        have hI3 : SI t (sv 1 X (upd (X 1) 5 (nI (10 * q2)))) := SI_eng hI (rgEu_24 (SI_rg hI) (rgn (n := 10 * q2) (by omega) (by omega))) (by decide) (by decide)
        obtain ⟨mb, hmb1, hmb2⟩ := (FR_val (until_FR (SI_rg hI3))).resolve_left hl4
        refine lk_battery hB hP hD hS hW (n := 10 * q2) (by omega) (SI_bo hI3) gL_law_X7_battery hl.1 (Nat.le_of_ble_eq_true rfl) dL_law_309 (fun T Z H locs hW hP hD hS => ?_)
        refine W.eq (g2 := F0 m 312 ls [.int (nI ba)]) (by rw [qba]) ?_
        refine lv_if_lt (tgt := 363) hx hb dL_law_312 (by decide) (fun q => absurd q (show ¬ (nI ba) < (0 : Int32) from nI_nlt (b := 0) (a := ba) (by omega) (by omega))) (fun _ => ?_)
        refine lv_aload_n hx hb dL_law_315 rfl (lv_at hl 6 rfl) ?_
        refine lk_until hB hP hD hS hW (BI_of hI3) gL_law_X7_untilRunning hl.1 (Nat.le_of_ble_eq_true rfl) dL_law_316 (fun Z H locs hW hP hD hS => ?_)
        refine W.eq (g2 := F0 m 319 ls [.int (nI mb)]) (by rw [hmb2]) ?_
        refine lv_if_lt (tgt := 363) hx hb dL_law_319 (by decide) (fun q => absurd q (show ¬ (nI mb) < (0 : Int32) from nI_nlt (b := 0) (a := mb) (by omega) (by omega))) (fun _ => ?_)
        refine lv_iload hx hb dL_law_322 (lv_at hl 2 rfl) ?_
        rcases (show q2 = 0 ∨ 0 < q2 by omega) with hq2 | hq2
        · refine lv_if_eq (tgt := 350) hx hb dL_law_324 (by decide) (fun _ => ?_) (fun q => absurd (show (nI (10 * q2)) = (0 : Int32) from congrArg nI (show 10 * q2 = 0 by omega)) q)
          refine lv_aload_n hx hb dL_law_350 rfl (lv_at hl 6 rfl) ?_
          refine lv_iconst (v := (nI 1)) hx hb dL_law_351 (by decide) ?_
          refine lk_rest1 hB hP hD hS hW rfl gL_law_X7_restore hl.1 (Nat.le_of_ble_eq_true rfl) dL_law_352 (fun T Z H locs hW hP hD hS => ?_)
          refine W.eq (g2 := F0 m 355 ls [.int (nI t)]) (by rw [qt]) ?_
          refine lv_iload_n hx hb dL_law_355 rfl (lv_at hl 5 rfl) ?_
          refine lv_icmp_ne (tgt := 363) hx hb dL_law_356 (by decide) (fun q => absurd (show (nI t) = (nI t) from congrArg nI (show t = t by omega)) q) (fun _ => ?_)
          refine lv_iconst (v := (nI 1)) hx hb dL_law_359 (by decide) ?_
          refine lv_goto (tgt := 364) hx hb dL_law_360 (by decide) ?_
          refine lv_istore_n (lv' := [(2, .int (nI 1)), (7, .int uv), (6, .int (nI (10 * q2))), (5, .int (-6)), (4, .int (nI sp)), (3, .int (nI t)), (1, .ref (a 0)), (0, .ref b)]) hx hb dL_law_364 rfl hl (by decide) rfl (fun ls hl => ?_)
          refine lv_iload_n hx hb dL_law_365 rfl (lv_at hl 0 rfl) ?_
          refine lv_if_eq (tgt := 405) hx hb dL_law_366 (by decide) (fun q => absurd q (show ¬ (nI 1) = (0 : Int32) from fun z => absurd ((nI_eq (a := 1) (b := 0) (by omega) (by omega)).mp z) (by omega))) (fun _ => ?_)
          rcases hFR with ⟨rfl, hu2⟩ | ⟨mu, hu1, rfl, hu3, hu4⟩
          · refine lv_iload hx hb dL_law_369 (lv_at hl 1 rfl) ?_
            refine lv_if_lt (tgt := 378) hx hb dL_law_371 (by decide) (fun _ => ?_) (fun q => absurd (by decide) q)
            refine lv_iconst (v := (nI 0)) hx hb dL_law_378 (by decide) ?_
            refine lv_aload_n hx hb dL_law_379 rfl (lv_at hl 6 rfl) ?_
            refine lk_until hB hP hD hS hW (BI_of hI) gL_law_X7_untilRunning hl.1 (Nat.le_of_ble_eq_true rfl) dL_law_380 (fun Z H locs hW hP hD hS => ?_)
            refine W.eq (g2 := F0 m 383 ls [.int (-6), .int (nI 0)]) (by rw [euv]) ?_
            refine lv_if_lt (tgt := 390) hx hb dL_law_383 (by decide) (fun _ => ?_) (fun q => absurd (by decide) q)
            refine lv_iconst (v := (nI 0)) hx hb dL_law_390 (by decide) ?_
            refine lv_icmp_ne (tgt := 405) hx hb dL_law_391 (by decide) (fun q => absurd (show (nI 0) = (nI 0) from congrArg nI (show 0 = 0 by omega)) q) (fun _ => ?_)
            refine lv_aload_n hx hb dL_law_394 rfl (lv_at hl 6 rfl) ?_
            refine lk_undo hB hP hD hS hW gL_law_X7_undo hl.1 (Nat.le_of_ble_eq_true rfl) dL_law_395 (fun n9 H locs hn9 hS => ?_)
            refine lv_if_lt (tgt := 405) hx hb dL_law_398 (by decide) (fun q => absurd q (show ¬ (nI n9) < (0 : Int32) from nI_nlt (b := 0) (a := n9) (by omega) (by omega))) (fun _ => ?_)
            refine lv_iconst (v := (nI 1)) hx hb dL_law_401 (by decide) ?_
            refine lv_goto (tgt := 406) hx hb dL_law_402 (by decide) ?_
            exact fin H locs ls hS
          · refine lv_iload hx hb dL_law_369 (lv_at hl 1 rfl) ?_
            refine lv_if_lt (tgt := 378) hx hb dL_law_371 (by decide) (fun q => absurd q (show ¬ (nI mu) < (0 : Int32) from nI_nlt (b := 0) (a := mu) (by omega) (by omega))) (fun _ => ?_)
            refine lv_iconst (v := (nI 1)) hx hb dL_law_374 (by decide) ?_
            refine lv_goto (tgt := 379) hx hb dL_law_375 (by decide) ?_
            refine lv_aload_n hx hb dL_law_379 rfl (lv_at hl 6 rfl) ?_
            refine lk_until hB hP hD hS hW (BI_of hI) gL_law_X7_untilRunning hl.1 (Nat.le_of_ble_eq_true rfl) dL_law_380 (fun Z H locs hW hP hD hS => ?_)
            refine W.eq (g2 := F0 m 383 ls [.int (nI mu), .int (nI 1)]) (by rw [euv]) ?_
            refine lv_if_lt (tgt := 390) hx hb dL_law_383 (by decide) (fun q => absurd q (show ¬ (nI mu) < (0 : Int32) from nI_nlt (b := 0) (a := mu) (by omega) (by omega))) (fun _ => ?_)
            refine lv_iconst (v := (nI 1)) hx hb dL_law_386 (by decide) ?_
            refine lv_goto (tgt := 391) hx hb dL_law_387 (by decide) ?_
            refine lv_icmp_ne (tgt := 405) hx hb dL_law_391 (by decide) (fun q => absurd (show (nI 1) = (nI 1) from congrArg nI (show 1 = 1 by omega)) q) (fun _ => ?_)
            refine lv_aload_n hx hb dL_law_394 rfl (lv_at hl 6 rfl) ?_
            refine lk_undo hB hP hD hS hW gL_law_X7_undo hl.1 (Nat.le_of_ble_eq_true rfl) dL_law_395 (fun n9 H locs hn9 hS => ?_)
            refine lv_if_lt (tgt := 405) hx hb dL_law_398 (by decide) (fun q => absurd q (show ¬ (nI n9) < (0 : Int32) from nI_nlt (b := 0) (a := n9) (by omega) (by omega))) (fun _ => ?_)
            refine lv_iconst (v := (nI 1)) hx hb dL_law_401 (by decide) ?_
            refine lv_goto (tgt := 406) hx hb dL_law_402 (by decide) ?_
            exact fin H locs ls hS
        · refine lv_if_eq (tgt := 350) hx hb dL_law_324 (by decide) (fun q => absurd q (show ¬ (nI (10 * q2)) = (0 : Int32) from fun z => absurd ((nI_eq (a := 10 * q2) (b := 0) (by omega) (by omega)).mp z) (by omega))) (fun _ => ?_)
          refine lv_aload_n hx hb dL_law_327 rfl (lv_at hl 6 rfl) ?_
          refine lv_iload hx hb dL_law_328 (lv_at hl 2 rfl) ?_
          refine lv_bipush (v := (nI 10)) hx hb dL_law_330 (by decide) ?_
          refine lv_isub hx hb dL_law_332 ?_
          refine W.eq (g2 := F0 m 333 ls [.int (nI (10 * q2 - 10)), .ref (a 0)]) (by rw [pk_sub (by omega)]) ?_
          have hI4 : SI t (sv 1 (sv 1 X (upd (X 1) 5 (nI (10 * q2)))) (upd ((sv 1 X (upd (X 1) 5 (nI (10 * q2)))) 1) 5 (nI (10 * q2 - 10)))) := SI_eng hI3 (rgEu_24 (SI_rg hI3) (rgn (n := 10 * q2 - 10) (by omega) (by omega))) (by decide) (by decide)
          have hu4 : (uP 1 301 0 (sv 1 (sv 1 X (upd (X 1) 5 (nI (10 * q2)))) (upd ((sv 1 X (upd (X 1) 5 (nI (10 * q2)))) 1) 5 (nI (10 * q2 - 10))))).1 = -6 := by
              rw [sv_us, sv_sv, upd2, show 10 * q2 - 10 = 10 * (q2 - 1) by omega]
              exact hl5 (q2 - 1) (by omega) (by omega)
          refine lk_battery hB hP hD hS hW (n := 10 * q2 - 10) (by omega) (SI_bo hI4) gL_law_X7_battery hl.1 (Nat.le_of_ble_eq_true rfl) dL_law_333 (fun T Z H locs hW hP hD hS => ?_)
          refine W.eq (g2 := F0 m 336 ls [.int (nI (10 * q2))]) (by rw [show (sv 1 X (upd (X 1) 5 (nI (10 * q2)))) 1 5 = nI (10 * q2) from rfl]) ?_
          refine lv_iload hx hb dL_law_336 (lv_at hl 2 rfl) ?_
          refine lv_icmp_ne (tgt := 363) hx hb dL_law_338 (by decide) (fun q => absurd (show (nI (10 * q2)) = (nI (10 * q2)) from congrArg nI (show 10 * q2 = 10 * q2 by omega)) q) (fun _ => ?_)
          refine lv_aload_n hx hb dL_law_341 rfl (lv_at hl 6 rfl) ?_
          refine lk_until hB hP hD hS hW (BI_of hI4) gL_law_X7_untilRunning hl.1 (Nat.le_of_ble_eq_true rfl) dL_law_342 (fun Z H locs hW hP hD hS => ?_)
          refine W.eq (g2 := F0 m 345 ls [.int (-6)]) (by rw [hu4]) ?_
          refine lv_bipush (v := (-6)) hx hb dL_law_345 (by decide) ?_
          refine lv_icmp_ne (tgt := 363) hx hb dL_law_347 (by decide) (fun q => absurd rfl q) (fun _ => ?_)
          refine lv_aload_n hx hb dL_law_350 rfl (lv_at hl 6 rfl) ?_
          refine lv_iconst (v := (nI 1)) hx hb dL_law_351 (by decide) ?_
          refine lk_rest1 hB hP hD hS hW rfl gL_law_X7_restore hl.1 (Nat.le_of_ble_eq_true rfl) dL_law_352 (fun T Z H locs hW hP hD hS => ?_)
          refine W.eq (g2 := F0 m 355 ls [.int (nI t)]) (by rw [qt]) ?_
          refine lv_iload_n hx hb dL_law_355 rfl (lv_at hl 5 rfl) ?_
          refine lv_icmp_ne (tgt := 363) hx hb dL_law_356 (by decide) (fun q => absurd (show (nI t) = (nI t) from congrArg nI (show t = t by omega)) q) (fun _ => ?_)
          refine lv_iconst (v := (nI 1)) hx hb dL_law_359 (by decide) ?_
          refine lv_goto (tgt := 364) hx hb dL_law_360 (by decide) ?_
          refine lv_istore_n (lv' := [(2, .int (nI 1)), (7, .int uv), (6, .int (nI (10 * q2))), (5, .int (-6)), (4, .int (nI sp)), (3, .int (nI t)), (1, .ref (a 0)), (0, .ref b)]) hx hb dL_law_364 rfl hl (by decide) rfl (fun ls hl => ?_)
          refine lv_iload_n hx hb dL_law_365 rfl (lv_at hl 0 rfl) ?_
          refine lv_if_eq (tgt := 405) hx hb dL_law_366 (by decide) (fun q => absurd q (show ¬ (nI 1) = (0 : Int32) from fun z => absurd ((nI_eq (a := 1) (b := 0) (by omega) (by omega)).mp z) (by omega))) (fun _ => ?_)
          rcases hFR with ⟨rfl, hu2⟩ | ⟨mu, hu1, rfl, hu3, hu4⟩
          · refine lv_iload hx hb dL_law_369 (lv_at hl 1 rfl) ?_
            refine lv_if_lt (tgt := 378) hx hb dL_law_371 (by decide) (fun _ => ?_) (fun q => absurd (by decide) q)
            refine lv_iconst (v := (nI 0)) hx hb dL_law_378 (by decide) ?_
            refine lv_aload_n hx hb dL_law_379 rfl (lv_at hl 6 rfl) ?_
            refine lk_until hB hP hD hS hW (BI_of hI) gL_law_X7_untilRunning hl.1 (Nat.le_of_ble_eq_true rfl) dL_law_380 (fun Z H locs hW hP hD hS => ?_)
            refine W.eq (g2 := F0 m 383 ls [.int (-6), .int (nI 0)]) (by rw [euv]) ?_
            refine lv_if_lt (tgt := 390) hx hb dL_law_383 (by decide) (fun _ => ?_) (fun q => absurd (by decide) q)
            refine lv_iconst (v := (nI 0)) hx hb dL_law_390 (by decide) ?_
            refine lv_icmp_ne (tgt := 405) hx hb dL_law_391 (by decide) (fun q => absurd (show (nI 0) = (nI 0) from congrArg nI (show 0 = 0 by omega)) q) (fun _ => ?_)
            refine lv_aload_n hx hb dL_law_394 rfl (lv_at hl 6 rfl) ?_
            refine lk_undo hB hP hD hS hW gL_law_X7_undo hl.1 (Nat.le_of_ble_eq_true rfl) dL_law_395 (fun n9 H locs hn9 hS => ?_)
            refine lv_if_lt (tgt := 405) hx hb dL_law_398 (by decide) (fun q => absurd q (show ¬ (nI n9) < (0 : Int32) from nI_nlt (b := 0) (a := n9) (by omega) (by omega))) (fun _ => ?_)
            refine lv_iconst (v := (nI 1)) hx hb dL_law_401 (by decide) ?_
            refine lv_goto (tgt := 406) hx hb dL_law_402 (by decide) ?_
            exact fin H locs ls hS
          · refine lv_iload hx hb dL_law_369 (lv_at hl 1 rfl) ?_
            refine lv_if_lt (tgt := 378) hx hb dL_law_371 (by decide) (fun q => absurd q (show ¬ (nI mu) < (0 : Int32) from nI_nlt (b := 0) (a := mu) (by omega) (by omega))) (fun _ => ?_)
            refine lv_iconst (v := (nI 1)) hx hb dL_law_374 (by decide) ?_
            refine lv_goto (tgt := 379) hx hb dL_law_375 (by decide) ?_
            refine lv_aload_n hx hb dL_law_379 rfl (lv_at hl 6 rfl) ?_
            refine lk_until hB hP hD hS hW (BI_of hI) gL_law_X7_untilRunning hl.1 (Nat.le_of_ble_eq_true rfl) dL_law_380 (fun Z H locs hW hP hD hS => ?_)
            refine W.eq (g2 := F0 m 383 ls [.int (nI mu), .int (nI 1)]) (by rw [euv]) ?_
            refine lv_if_lt (tgt := 390) hx hb dL_law_383 (by decide) (fun q => absurd q (show ¬ (nI mu) < (0 : Int32) from nI_nlt (b := 0) (a := mu) (by omega) (by omega))) (fun _ => ?_)
            refine lv_iconst (v := (nI 1)) hx hb dL_law_386 (by decide) ?_
            refine lv_goto (tgt := 391) hx hb dL_law_387 (by decide) ?_
            refine lv_icmp_ne (tgt := 405) hx hb dL_law_391 (by decide) (fun q => absurd (show (nI 1) = (nI 1) from congrArg nI (show 1 = 1 by omega)) q) (fun _ => ?_)
            refine lv_aload_n hx hb dL_law_394 rfl (lv_at hl 6 rfl) ?_
            refine lk_undo hB hP hD hS hW gL_law_X7_undo hl.1 (Nat.le_of_ble_eq_true rfl) dL_law_395 (fun n9 H locs hn9 hS => ?_)
            refine lv_if_lt (tgt := 405) hx hb dL_law_398 (by decide) (fun q => absurd q (show ¬ (nI n9) < (0 : Int32) from nI_nlt (b := 0) (a := n9) (by omega) (by omega))) (fun _ => ?_)
            refine lv_iconst (v := (nI 1)) hx hb dL_law_401 (by decide) ?_
            refine lv_goto (tgt := 406) hx hb dL_law_402 (by decide) ?_
            exact fin H locs ls hS
    · refine lv_iload hx hb dL_law_233 (lv_at hl 3 rfl) ?_
      refine lv_if_lt (tgt := 297) hx hb dL_law_235 (by decide) (fun q => absurd q (show ¬ (nI q1) < (0 : Int32) from nI_nlt (b := 0) (a := q1) (by omega) (by omega))) (fun _ => ?_)
      refine lv_aload_n hx hb dL_law_238 rfl (lv_at hl 6 rfl) ?_
      refine lv_iload hx hb dL_law_239 (lv_at hl 3 rfl) ?_
      have hI2 : SI t (sv 1 X (upd (X 1) 3 (nI q1))) := SI_eng hI (rgEu_19 (SI_rg hI) (rgn (n := q1) (by omega) (by omega))) (by decide) (by decide)
      obtain ⟨mq, hm1, hm2, hm3, hm4, hm5⟩ := (cool_CO (sv 1 X (upd (X 1) 3 (nI q1)))).resolve_left hq4
      have huq : (uP 1 301 0 (sv 1 X (upd (X 1) 3 (nI q1)))).1 = nI mq := FR_eq (M := 300) (until_FR (SI_rg hI2)) hm1 rfl hm3 hm4
      refine lk_fuel hB hP hD hS hW (n := q1) (by omega) (SI_bo hI2) gL_law_X7_fuel hl.1 (Nat.le_of_ble_eq_true rfl) dL_law_241 (fun T Z H locs hW hP hD hS => ?_)
      refine W.eq (g2 := F0 m 244 ls [.int (nI st)]) (by rw [qst]) ?_
      refine lv_if_lt (tgt := 295) hx hb dL_law_244 (by decide) (fun q => absurd q (show ¬ (nI st) < (0 : Int32) from nI_nlt (b := 0) (a := st) (by omega) (by omega))) (fun _ => ?_)
      refine lv_aload_n hx hb dL_law_247 rfl (lv_at hl 6 rfl) ?_
      refine lk_until hB hP hD hS hW (BI_of hI2) gL_law_X7_untilRunning hl.1 (Nat.le_of_ble_eq_true rfl) dL_law_248 (fun Z H locs hW hP hD hS => ?_)
      refine W.eq (g2 := F0 m 251 ls [.int (nI mq)]) (by rw [huq]) ?_
      refine lv_if_lt (tgt := 295) hx hb dL_law_251 (by decide) (fun q => absurd q (show ¬ (nI mq) < (0 : Int32) from nI_nlt (b := 0) (a := mq) (by omega) (by omega))) (fun _ => ?_)
      refine lv_aload_n hx hb dL_law_254 rfl (lv_at hl 6 rfl) ?_
      refine lk_best hB hP hD hS hW (BI_of hI2) gL_law_X7_bestFuel hl.1 (Nat.le_of_ble_eq_true rfl) dL_law_255 (fun Z H locs hW hP hD hS => ?_)
      refine W.eq (g2 := F0 m 258 ls [.int (nI q1)]) (by rw [bF_upd X (nI q1), ebv]) ?_
      refine lv_iload hx hb dL_law_258 (lv_at hl 3 rfl) ?_
      refine lv_icmp_ne (tgt := 295) hx hb dL_law_260 (by decide) (fun q => absurd (show (nI q1) = (nI q1) from congrArg nI (show q1 = q1 by omega)) q) (fun _ => ?_)
      refine lv_aload_n hx hb dL_law_263 rfl (lv_at hl 6 rfl) ?_
      refine lk_until hB hP hD hS hW (BI_of hI2) gL_law_X7_untilRunning hl.1 (Nat.le_of_ble_eq_true rfl) dL_law_264 (fun Z H locs hW hP hD hS => ?_)
      refine W.eq (g2 := F0 m 267 ls [.int (nI mq)]) (by rw [huq]) ?_
      rcases (show mq = 0 ∨ 0 < mq by omega) with hmq | hmq
      · refine lv_if_eq (tgt := 282) hx hb dL_law_267 (by decide) (fun _ => ?_) (fun q => absurd (show (nI mq) = (0 : Int32) from congrArg nI (show mq = 0 by omega)) q)
        refine lv_aload_n hx hb dL_law_282 rfl (lv_at hl 6 rfl) ?_
        refine lv_iconst (v := (nI 1)) hx hb dL_law_283 (by decide) ?_
        refine lk_rest1 hB hP hD hS hW rfl gL_law_X7_restore hl.1 (Nat.le_of_ble_eq_true rfl) dL_law_284 (fun T Z H locs hW hP hD hS => ?_)
        refine W.eq (g2 := F0 m 287 ls [.int (nI t)]) (by rw [qt]) ?_
        refine lv_iload_n hx hb dL_law_287 rfl (lv_at hl 5 rfl) ?_
        refine lv_icmp_ne (tgt := 295) hx hb dL_law_288 (by decide) (fun q => absurd (show (nI t) = (nI t) from congrArg nI (show t = t by omega)) q) (fun _ => ?_)
        refine lv_iconst (v := (nI 1)) hx hb dL_law_291 (by decide) ?_
        refine lv_goto (tgt := 296) hx hb dL_law_292 (by decide) ?_
        refine lv_istore_n (lv' := [(2, .int (nI 1)), (7, .int uv), (6, .int lv), (5, .int (nI q1)), (4, .int (nI sp)), (3, .int (nI t)), (1, .ref (a 0)), (0, .ref b)]) hx hb dL_law_296 rfl hl (by decide) rfl (fun ls hl => ?_)
        refine lv_iload_n hx hb dL_law_297 rfl (lv_at hl 0 rfl) ?_
        refine lv_if_eq (tgt := 365) hx hb dL_law_298 (by decide) (fun q => absurd q (show ¬ (nI 1) = (0 : Int32) from fun z => absurd ((nI_eq (a := 1) (b := 0) (by omega) (by omega)).mp z) (by omega))) (fun _ => ?_)
        rcases hlv with rfl | ⟨q2, hl1, hl2, rfl, hl4, hl5⟩
        · refine lv_iload hx hb dL_law_301 (lv_at hl 2 rfl) ?_
          refine lv_if_lt (tgt := 365) hx hb dL_law_303 (by decide) (fun _ => ?_) (fun q => absurd (by decide) q)
          refine lv_iload_n hx hb dL_law_365 rfl (lv_at hl 0 rfl) ?_
          refine lv_if_eq (tgt := 405) hx hb dL_law_366 (by decide) (fun q => absurd q (show ¬ (nI 1) = (0 : Int32) from fun z => absurd ((nI_eq (a := 1) (b := 0) (by omega) (by omega)).mp z) (by omega))) (fun _ => ?_)
          rcases hFR with ⟨rfl, hu2⟩ | ⟨mu, hu1, rfl, hu3, hu4⟩
          · refine lv_iload hx hb dL_law_369 (lv_at hl 1 rfl) ?_
            refine lv_if_lt (tgt := 378) hx hb dL_law_371 (by decide) (fun _ => ?_) (fun q => absurd (by decide) q)
            refine lv_iconst (v := (nI 0)) hx hb dL_law_378 (by decide) ?_
            refine lv_aload_n hx hb dL_law_379 rfl (lv_at hl 6 rfl) ?_
            refine lk_until hB hP hD hS hW (BI_of hI) gL_law_X7_untilRunning hl.1 (Nat.le_of_ble_eq_true rfl) dL_law_380 (fun Z H locs hW hP hD hS => ?_)
            refine W.eq (g2 := F0 m 383 ls [.int (-6), .int (nI 0)]) (by rw [euv]) ?_
            refine lv_if_lt (tgt := 390) hx hb dL_law_383 (by decide) (fun _ => ?_) (fun q => absurd (by decide) q)
            refine lv_iconst (v := (nI 0)) hx hb dL_law_390 (by decide) ?_
            refine lv_icmp_ne (tgt := 405) hx hb dL_law_391 (by decide) (fun q => absurd (show (nI 0) = (nI 0) from congrArg nI (show 0 = 0 by omega)) q) (fun _ => ?_)
            refine lv_aload_n hx hb dL_law_394 rfl (lv_at hl 6 rfl) ?_
            refine lk_undo hB hP hD hS hW gL_law_X7_undo hl.1 (Nat.le_of_ble_eq_true rfl) dL_law_395 (fun n9 H locs hn9 hS => ?_)
            refine lv_if_lt (tgt := 405) hx hb dL_law_398 (by decide) (fun q => absurd q (show ¬ (nI n9) < (0 : Int32) from nI_nlt (b := 0) (a := n9) (by omega) (by omega))) (fun _ => ?_)
            refine lv_iconst (v := (nI 1)) hx hb dL_law_401 (by decide) ?_
            refine lv_goto (tgt := 406) hx hb dL_law_402 (by decide) ?_
            exact fin H locs ls hS
          · refine lv_iload hx hb dL_law_369 (lv_at hl 1 rfl) ?_
            refine lv_if_lt (tgt := 378) hx hb dL_law_371 (by decide) (fun q => absurd q (show ¬ (nI mu) < (0 : Int32) from nI_nlt (b := 0) (a := mu) (by omega) (by omega))) (fun _ => ?_)
            refine lv_iconst (v := (nI 1)) hx hb dL_law_374 (by decide) ?_
            refine lv_goto (tgt := 379) hx hb dL_law_375 (by decide) ?_
            refine lv_aload_n hx hb dL_law_379 rfl (lv_at hl 6 rfl) ?_
            refine lk_until hB hP hD hS hW (BI_of hI) gL_law_X7_untilRunning hl.1 (Nat.le_of_ble_eq_true rfl) dL_law_380 (fun Z H locs hW hP hD hS => ?_)
            refine W.eq (g2 := F0 m 383 ls [.int (nI mu), .int (nI 1)]) (by rw [euv]) ?_
            refine lv_if_lt (tgt := 390) hx hb dL_law_383 (by decide) (fun q => absurd q (show ¬ (nI mu) < (0 : Int32) from nI_nlt (b := 0) (a := mu) (by omega) (by omega))) (fun _ => ?_)
            refine lv_iconst (v := (nI 1)) hx hb dL_law_386 (by decide) ?_
            refine lv_goto (tgt := 391) hx hb dL_law_387 (by decide) ?_
            refine lv_icmp_ne (tgt := 405) hx hb dL_law_391 (by decide) (fun q => absurd (show (nI 1) = (nI 1) from congrArg nI (show 1 = 1 by omega)) q) (fun _ => ?_)
            refine lv_aload_n hx hb dL_law_394 rfl (lv_at hl 6 rfl) ?_
            refine lk_undo hB hP hD hS hW gL_law_X7_undo hl.1 (Nat.le_of_ble_eq_true rfl) dL_law_395 (fun n9 H locs hn9 hS => ?_)
            refine lv_if_lt (tgt := 405) hx hb dL_law_398 (by decide) (fun q => absurd q (show ¬ (nI n9) < (0 : Int32) from nI_nlt (b := 0) (a := n9) (by omega) (by omega))) (fun _ => ?_)
            refine lv_iconst (v := (nI 1)) hx hb dL_law_401 (by decide) ?_
            refine lv_goto (tgt := 406) hx hb dL_law_402 (by decide) ?_
            exact fin H locs ls hS
        · refine lv_iload hx hb dL_law_301 (lv_at hl 2 rfl) ?_
          refine lv_if_lt (tgt := 365) hx hb dL_law_303 (by decide) (fun q => absurd q (show ¬ (nI (10 * q2)) < (0 : Int32) from nI_nlt (b := 0) (a := 10 * q2) (by omega) (by omega))) (fun _ => ?_)
          refine lv_aload_n hx hb dL_law_306 rfl (lv_at hl 6 rfl) ?_
          refine lv_iload hx hb dL_law_307 (lv_at hl 2 rfl) ?_
          have hI3 : SI t (sv 1 X (upd (X 1) 5 (nI (10 * q2)))) := SI_eng hI (rgEu_24 (SI_rg hI) (rgn (n := 10 * q2) (by omega) (by omega))) (by decide) (by decide)
          obtain ⟨mb, hmb1, hmb2⟩ := (FR_val (until_FR (SI_rg hI3))).resolve_left hl4
          refine lk_battery hB hP hD hS hW (n := 10 * q2) (by omega) (SI_bo hI3) gL_law_X7_battery hl.1 (Nat.le_of_ble_eq_true rfl) dL_law_309 (fun T Z H locs hW hP hD hS => ?_)
          refine W.eq (g2 := F0 m 312 ls [.int (nI ba)]) (by rw [qba]) ?_
          refine lv_if_lt (tgt := 363) hx hb dL_law_312 (by decide) (fun q => absurd q (show ¬ (nI ba) < (0 : Int32) from nI_nlt (b := 0) (a := ba) (by omega) (by omega))) (fun _ => ?_)
          refine lv_aload_n hx hb dL_law_315 rfl (lv_at hl 6 rfl) ?_
          refine lk_until hB hP hD hS hW (BI_of hI3) gL_law_X7_untilRunning hl.1 (Nat.le_of_ble_eq_true rfl) dL_law_316 (fun Z H locs hW hP hD hS => ?_)
          refine W.eq (g2 := F0 m 319 ls [.int (nI mb)]) (by rw [hmb2]) ?_
          refine lv_if_lt (tgt := 363) hx hb dL_law_319 (by decide) (fun q => absurd q (show ¬ (nI mb) < (0 : Int32) from nI_nlt (b := 0) (a := mb) (by omega) (by omega))) (fun _ => ?_)
          refine lv_iload hx hb dL_law_322 (lv_at hl 2 rfl) ?_
          rcases (show q2 = 0 ∨ 0 < q2 by omega) with hq2 | hq2
          · refine lv_if_eq (tgt := 350) hx hb dL_law_324 (by decide) (fun _ => ?_) (fun q => absurd (show (nI (10 * q2)) = (0 : Int32) from congrArg nI (show 10 * q2 = 0 by omega)) q)
            refine lv_aload_n hx hb dL_law_350 rfl (lv_at hl 6 rfl) ?_
            refine lv_iconst (v := (nI 1)) hx hb dL_law_351 (by decide) ?_
            refine lk_rest1 hB hP hD hS hW rfl gL_law_X7_restore hl.1 (Nat.le_of_ble_eq_true rfl) dL_law_352 (fun T Z H locs hW hP hD hS => ?_)
            refine W.eq (g2 := F0 m 355 ls [.int (nI t)]) (by rw [qt]) ?_
            refine lv_iload_n hx hb dL_law_355 rfl (lv_at hl 5 rfl) ?_
            refine lv_icmp_ne (tgt := 363) hx hb dL_law_356 (by decide) (fun q => absurd (show (nI t) = (nI t) from congrArg nI (show t = t by omega)) q) (fun _ => ?_)
            refine lv_iconst (v := (nI 1)) hx hb dL_law_359 (by decide) ?_
            refine lv_goto (tgt := 364) hx hb dL_law_360 (by decide) ?_
            refine lv_istore_n (lv' := [(2, .int (nI 1)), (7, .int uv), (6, .int (nI (10 * q2))), (5, .int (nI q1)), (4, .int (nI sp)), (3, .int (nI t)), (1, .ref (a 0)), (0, .ref b)]) hx hb dL_law_364 rfl hl (by decide) rfl (fun ls hl => ?_)
            refine lv_iload_n hx hb dL_law_365 rfl (lv_at hl 0 rfl) ?_
            refine lv_if_eq (tgt := 405) hx hb dL_law_366 (by decide) (fun q => absurd q (show ¬ (nI 1) = (0 : Int32) from fun z => absurd ((nI_eq (a := 1) (b := 0) (by omega) (by omega)).mp z) (by omega))) (fun _ => ?_)
            rcases hFR with ⟨rfl, hu2⟩ | ⟨mu, hu1, rfl, hu3, hu4⟩
            · refine lv_iload hx hb dL_law_369 (lv_at hl 1 rfl) ?_
              refine lv_if_lt (tgt := 378) hx hb dL_law_371 (by decide) (fun _ => ?_) (fun q => absurd (by decide) q)
              refine lv_iconst (v := (nI 0)) hx hb dL_law_378 (by decide) ?_
              refine lv_aload_n hx hb dL_law_379 rfl (lv_at hl 6 rfl) ?_
              refine lk_until hB hP hD hS hW (BI_of hI) gL_law_X7_untilRunning hl.1 (Nat.le_of_ble_eq_true rfl) dL_law_380 (fun Z H locs hW hP hD hS => ?_)
              refine W.eq (g2 := F0 m 383 ls [.int (-6), .int (nI 0)]) (by rw [euv]) ?_
              refine lv_if_lt (tgt := 390) hx hb dL_law_383 (by decide) (fun _ => ?_) (fun q => absurd (by decide) q)
              refine lv_iconst (v := (nI 0)) hx hb dL_law_390 (by decide) ?_
              refine lv_icmp_ne (tgt := 405) hx hb dL_law_391 (by decide) (fun q => absurd (show (nI 0) = (nI 0) from congrArg nI (show 0 = 0 by omega)) q) (fun _ => ?_)
              refine lv_aload_n hx hb dL_law_394 rfl (lv_at hl 6 rfl) ?_
              refine lk_undo hB hP hD hS hW gL_law_X7_undo hl.1 (Nat.le_of_ble_eq_true rfl) dL_law_395 (fun n9 H locs hn9 hS => ?_)
              refine lv_if_lt (tgt := 405) hx hb dL_law_398 (by decide) (fun q => absurd q (show ¬ (nI n9) < (0 : Int32) from nI_nlt (b := 0) (a := n9) (by omega) (by omega))) (fun _ => ?_)
              refine lv_iconst (v := (nI 1)) hx hb dL_law_401 (by decide) ?_
              refine lv_goto (tgt := 406) hx hb dL_law_402 (by decide) ?_
              exact fin H locs ls hS
            · refine lv_iload hx hb dL_law_369 (lv_at hl 1 rfl) ?_
              refine lv_if_lt (tgt := 378) hx hb dL_law_371 (by decide) (fun q => absurd q (show ¬ (nI mu) < (0 : Int32) from nI_nlt (b := 0) (a := mu) (by omega) (by omega))) (fun _ => ?_)
              refine lv_iconst (v := (nI 1)) hx hb dL_law_374 (by decide) ?_
              refine lv_goto (tgt := 379) hx hb dL_law_375 (by decide) ?_
              refine lv_aload_n hx hb dL_law_379 rfl (lv_at hl 6 rfl) ?_
              refine lk_until hB hP hD hS hW (BI_of hI) gL_law_X7_untilRunning hl.1 (Nat.le_of_ble_eq_true rfl) dL_law_380 (fun Z H locs hW hP hD hS => ?_)
              refine W.eq (g2 := F0 m 383 ls [.int (nI mu), .int (nI 1)]) (by rw [euv]) ?_
              refine lv_if_lt (tgt := 390) hx hb dL_law_383 (by decide) (fun q => absurd q (show ¬ (nI mu) < (0 : Int32) from nI_nlt (b := 0) (a := mu) (by omega) (by omega))) (fun _ => ?_)
              refine lv_iconst (v := (nI 1)) hx hb dL_law_386 (by decide) ?_
              refine lv_goto (tgt := 391) hx hb dL_law_387 (by decide) ?_
              refine lv_icmp_ne (tgt := 405) hx hb dL_law_391 (by decide) (fun q => absurd (show (nI 1) = (nI 1) from congrArg nI (show 1 = 1 by omega)) q) (fun _ => ?_)
              refine lv_aload_n hx hb dL_law_394 rfl (lv_at hl 6 rfl) ?_
              refine lk_undo hB hP hD hS hW gL_law_X7_undo hl.1 (Nat.le_of_ble_eq_true rfl) dL_law_395 (fun n9 H locs hn9 hS => ?_)
              refine lv_if_lt (tgt := 405) hx hb dL_law_398 (by decide) (fun q => absurd q (show ¬ (nI n9) < (0 : Int32) from nI_nlt (b := 0) (a := n9) (by omega) (by omega))) (fun _ => ?_)
              refine lv_iconst (v := (nI 1)) hx hb dL_law_401 (by decide) ?_
              refine lv_goto (tgt := 406) hx hb dL_law_402 (by decide) ?_
              exact fin H locs ls hS
          · refine lv_if_eq (tgt := 350) hx hb dL_law_324 (by decide) (fun q => absurd q (show ¬ (nI (10 * q2)) = (0 : Int32) from fun z => absurd ((nI_eq (a := 10 * q2) (b := 0) (by omega) (by omega)).mp z) (by omega))) (fun _ => ?_)
            refine lv_aload_n hx hb dL_law_327 rfl (lv_at hl 6 rfl) ?_
            refine lv_iload hx hb dL_law_328 (lv_at hl 2 rfl) ?_
            refine lv_bipush (v := (nI 10)) hx hb dL_law_330 (by decide) ?_
            refine lv_isub hx hb dL_law_332 ?_
            refine W.eq (g2 := F0 m 333 ls [.int (nI (10 * q2 - 10)), .ref (a 0)]) (by rw [pk_sub (by omega)]) ?_
            have hI4 : SI t (sv 1 (sv 1 X (upd (X 1) 5 (nI (10 * q2)))) (upd ((sv 1 X (upd (X 1) 5 (nI (10 * q2)))) 1) 5 (nI (10 * q2 - 10)))) := SI_eng hI3 (rgEu_24 (SI_rg hI3) (rgn (n := 10 * q2 - 10) (by omega) (by omega))) (by decide) (by decide)
            have hu4 : (uP 1 301 0 (sv 1 (sv 1 X (upd (X 1) 5 (nI (10 * q2)))) (upd ((sv 1 X (upd (X 1) 5 (nI (10 * q2)))) 1) 5 (nI (10 * q2 - 10))))).1 = -6 := by
                rw [sv_us, sv_sv, upd2, show 10 * q2 - 10 = 10 * (q2 - 1) by omega]
                exact hl5 (q2 - 1) (by omega) (by omega)
            refine lk_battery hB hP hD hS hW (n := 10 * q2 - 10) (by omega) (SI_bo hI4) gL_law_X7_battery hl.1 (Nat.le_of_ble_eq_true rfl) dL_law_333 (fun T Z H locs hW hP hD hS => ?_)
            refine W.eq (g2 := F0 m 336 ls [.int (nI (10 * q2))]) (by rw [show (sv 1 X (upd (X 1) 5 (nI (10 * q2)))) 1 5 = nI (10 * q2) from rfl]) ?_
            refine lv_iload hx hb dL_law_336 (lv_at hl 2 rfl) ?_
            refine lv_icmp_ne (tgt := 363) hx hb dL_law_338 (by decide) (fun q => absurd (show (nI (10 * q2)) = (nI (10 * q2)) from congrArg nI (show 10 * q2 = 10 * q2 by omega)) q) (fun _ => ?_)
            refine lv_aload_n hx hb dL_law_341 rfl (lv_at hl 6 rfl) ?_
            refine lk_until hB hP hD hS hW (BI_of hI4) gL_law_X7_untilRunning hl.1 (Nat.le_of_ble_eq_true rfl) dL_law_342 (fun Z H locs hW hP hD hS => ?_)
            refine W.eq (g2 := F0 m 345 ls [.int (-6)]) (by rw [hu4]) ?_
            refine lv_bipush (v := (-6)) hx hb dL_law_345 (by decide) ?_
            refine lv_icmp_ne (tgt := 363) hx hb dL_law_347 (by decide) (fun q => absurd rfl q) (fun _ => ?_)
            refine lv_aload_n hx hb dL_law_350 rfl (lv_at hl 6 rfl) ?_
            refine lv_iconst (v := (nI 1)) hx hb dL_law_351 (by decide) ?_
            refine lk_rest1 hB hP hD hS hW rfl gL_law_X7_restore hl.1 (Nat.le_of_ble_eq_true rfl) dL_law_352 (fun T Z H locs hW hP hD hS => ?_)
            refine W.eq (g2 := F0 m 355 ls [.int (nI t)]) (by rw [qt]) ?_
            refine lv_iload_n hx hb dL_law_355 rfl (lv_at hl 5 rfl) ?_
            refine lv_icmp_ne (tgt := 363) hx hb dL_law_356 (by decide) (fun q => absurd (show (nI t) = (nI t) from congrArg nI (show t = t by omega)) q) (fun _ => ?_)
            refine lv_iconst (v := (nI 1)) hx hb dL_law_359 (by decide) ?_
            refine lv_goto (tgt := 364) hx hb dL_law_360 (by decide) ?_
            refine lv_istore_n (lv' := [(2, .int (nI 1)), (7, .int uv), (6, .int (nI (10 * q2))), (5, .int (nI q1)), (4, .int (nI sp)), (3, .int (nI t)), (1, .ref (a 0)), (0, .ref b)]) hx hb dL_law_364 rfl hl (by decide) rfl (fun ls hl => ?_)
            refine lv_iload_n hx hb dL_law_365 rfl (lv_at hl 0 rfl) ?_
            refine lv_if_eq (tgt := 405) hx hb dL_law_366 (by decide) (fun q => absurd q (show ¬ (nI 1) = (0 : Int32) from fun z => absurd ((nI_eq (a := 1) (b := 0) (by omega) (by omega)).mp z) (by omega))) (fun _ => ?_)
            rcases hFR with ⟨rfl, hu2⟩ | ⟨mu, hu1, rfl, hu3, hu4⟩
            · refine lv_iload hx hb dL_law_369 (lv_at hl 1 rfl) ?_
              refine lv_if_lt (tgt := 378) hx hb dL_law_371 (by decide) (fun _ => ?_) (fun q => absurd (by decide) q)
              refine lv_iconst (v := (nI 0)) hx hb dL_law_378 (by decide) ?_
              refine lv_aload_n hx hb dL_law_379 rfl (lv_at hl 6 rfl) ?_
              refine lk_until hB hP hD hS hW (BI_of hI) gL_law_X7_untilRunning hl.1 (Nat.le_of_ble_eq_true rfl) dL_law_380 (fun Z H locs hW hP hD hS => ?_)
              refine W.eq (g2 := F0 m 383 ls [.int (-6), .int (nI 0)]) (by rw [euv]) ?_
              refine lv_if_lt (tgt := 390) hx hb dL_law_383 (by decide) (fun _ => ?_) (fun q => absurd (by decide) q)
              refine lv_iconst (v := (nI 0)) hx hb dL_law_390 (by decide) ?_
              refine lv_icmp_ne (tgt := 405) hx hb dL_law_391 (by decide) (fun q => absurd (show (nI 0) = (nI 0) from congrArg nI (show 0 = 0 by omega)) q) (fun _ => ?_)
              refine lv_aload_n hx hb dL_law_394 rfl (lv_at hl 6 rfl) ?_
              refine lk_undo hB hP hD hS hW gL_law_X7_undo hl.1 (Nat.le_of_ble_eq_true rfl) dL_law_395 (fun n9 H locs hn9 hS => ?_)
              refine lv_if_lt (tgt := 405) hx hb dL_law_398 (by decide) (fun q => absurd q (show ¬ (nI n9) < (0 : Int32) from nI_nlt (b := 0) (a := n9) (by omega) (by omega))) (fun _ => ?_)
              refine lv_iconst (v := (nI 1)) hx hb dL_law_401 (by decide) ?_
              refine lv_goto (tgt := 406) hx hb dL_law_402 (by decide) ?_
              exact fin H locs ls hS
            · refine lv_iload hx hb dL_law_369 (lv_at hl 1 rfl) ?_
              refine lv_if_lt (tgt := 378) hx hb dL_law_371 (by decide) (fun q => absurd q (show ¬ (nI mu) < (0 : Int32) from nI_nlt (b := 0) (a := mu) (by omega) (by omega))) (fun _ => ?_)
              refine lv_iconst (v := (nI 1)) hx hb dL_law_374 (by decide) ?_
              refine lv_goto (tgt := 379) hx hb dL_law_375 (by decide) ?_
              refine lv_aload_n hx hb dL_law_379 rfl (lv_at hl 6 rfl) ?_
              refine lk_until hB hP hD hS hW (BI_of hI) gL_law_X7_untilRunning hl.1 (Nat.le_of_ble_eq_true rfl) dL_law_380 (fun Z H locs hW hP hD hS => ?_)
              refine W.eq (g2 := F0 m 383 ls [.int (nI mu), .int (nI 1)]) (by rw [euv]) ?_
              refine lv_if_lt (tgt := 390) hx hb dL_law_383 (by decide) (fun q => absurd q (show ¬ (nI mu) < (0 : Int32) from nI_nlt (b := 0) (a := mu) (by omega) (by omega))) (fun _ => ?_)
              refine lv_iconst (v := (nI 1)) hx hb dL_law_386 (by decide) ?_
              refine lv_goto (tgt := 391) hx hb dL_law_387 (by decide) ?_
              refine lv_icmp_ne (tgt := 405) hx hb dL_law_391 (by decide) (fun q => absurd (show (nI 1) = (nI 1) from congrArg nI (show 1 = 1 by omega)) q) (fun _ => ?_)
              refine lv_aload_n hx hb dL_law_394 rfl (lv_at hl 6 rfl) ?_
              refine lk_undo hB hP hD hS hW gL_law_X7_undo hl.1 (Nat.le_of_ble_eq_true rfl) dL_law_395 (fun n9 H locs hn9 hS => ?_)
              refine lv_if_lt (tgt := 405) hx hb dL_law_398 (by decide) (fun q => absurd q (show ¬ (nI n9) < (0 : Int32) from nI_nlt (b := 0) (a := n9) (by omega) (by omega))) (fun _ => ?_)
              refine lv_iconst (v := (nI 1)) hx hb dL_law_401 (by decide) ?_
              refine lv_goto (tgt := 406) hx hb dL_law_402 (by decide) ?_
              exact fin H locs ls hS
      · refine lv_if_eq (tgt := 282) hx hb dL_law_267 (by decide) (fun q => absurd q (show ¬ (nI mq) = (0 : Int32) from fun z => absurd ((nI_eq (a := mq) (b := 0) (by omega) (by omega)).mp z) (by omega))) (fun _ => ?_)
        refine lv_aload_n hx hb dL_law_270 rfl (lv_at hl 6 rfl) ?_
        refine lv_aload_n hx hb dL_law_271 rfl (lv_at hl 6 rfl) ?_
        refine lk_until hB hP hD hS hW (BI_of hI2) gL_law_X7_untilRunning hl.1 (Nat.le_of_ble_eq_true rfl) dL_law_272 (fun Z H locs hW hP hD hS => ?_)
        refine W.eq (g2 := F0 m 275 ls [.int (nI mq), .ref (a 0)]) (by rw [huq]) ?_
        refine lv_iconst (v := (nI 3)) hx hb dL_law_275 (by decide) ?_
        refine lk_if hB hP hD hS hW (BI_of hI2) (n := mq) (w := 3) (v := nI 0) (by omega) (by omega) (by omega) ((if_r (OSt_X hW) (SI_rg hI2) (n := mq) (by omega) (by omega)).2.2.2.1.trans (congrArg nI (hN_0 mq hm5))) gL_law_X7_ifTicked hl.1 (Nat.le_of_ble_eq_true rfl) dL_law_276 (fun Z H locs hW hP hD hS => ?_)
        refine lv_if_ne (tgt := 295) hx hb dL_law_279 (by decide) (fun q => absurd (show (nI 0) = (0 : Int32) from congrArg nI (show 0 = 0 by omega)) q) (fun _ => ?_)
        refine lv_aload_n hx hb dL_law_282 rfl (lv_at hl 6 rfl) ?_
        refine lv_iconst (v := (nI 1)) hx hb dL_law_283 (by decide) ?_
        refine lk_rest1 hB hP hD hS hW rfl gL_law_X7_restore hl.1 (Nat.le_of_ble_eq_true rfl) dL_law_284 (fun T Z H locs hW hP hD hS => ?_)
        refine W.eq (g2 := F0 m 287 ls [.int (nI t)]) (by rw [qt]) ?_
        refine lv_iload_n hx hb dL_law_287 rfl (lv_at hl 5 rfl) ?_
        refine lv_icmp_ne (tgt := 295) hx hb dL_law_288 (by decide) (fun q => absurd (show (nI t) = (nI t) from congrArg nI (show t = t by omega)) q) (fun _ => ?_)
        refine lv_iconst (v := (nI 1)) hx hb dL_law_291 (by decide) ?_
        refine lv_goto (tgt := 296) hx hb dL_law_292 (by decide) ?_
        refine lv_istore_n (lv' := [(2, .int (nI 1)), (7, .int uv), (6, .int lv), (5, .int (nI q1)), (4, .int (nI sp)), (3, .int (nI t)), (1, .ref (a 0)), (0, .ref b)]) hx hb dL_law_296 rfl hl (by decide) rfl (fun ls hl => ?_)
        refine lv_iload_n hx hb dL_law_297 rfl (lv_at hl 0 rfl) ?_
        refine lv_if_eq (tgt := 365) hx hb dL_law_298 (by decide) (fun q => absurd q (show ¬ (nI 1) = (0 : Int32) from fun z => absurd ((nI_eq (a := 1) (b := 0) (by omega) (by omega)).mp z) (by omega))) (fun _ => ?_)
        rcases hlv with rfl | ⟨q2, hl1, hl2, rfl, hl4, hl5⟩
        · refine lv_iload hx hb dL_law_301 (lv_at hl 2 rfl) ?_
          refine lv_if_lt (tgt := 365) hx hb dL_law_303 (by decide) (fun _ => ?_) (fun q => absurd (by decide) q)
          refine lv_iload_n hx hb dL_law_365 rfl (lv_at hl 0 rfl) ?_
          refine lv_if_eq (tgt := 405) hx hb dL_law_366 (by decide) (fun q => absurd q (show ¬ (nI 1) = (0 : Int32) from fun z => absurd ((nI_eq (a := 1) (b := 0) (by omega) (by omega)).mp z) (by omega))) (fun _ => ?_)
          rcases hFR with ⟨rfl, hu2⟩ | ⟨mu, hu1, rfl, hu3, hu4⟩
          · refine lv_iload hx hb dL_law_369 (lv_at hl 1 rfl) ?_
            refine lv_if_lt (tgt := 378) hx hb dL_law_371 (by decide) (fun _ => ?_) (fun q => absurd (by decide) q)
            refine lv_iconst (v := (nI 0)) hx hb dL_law_378 (by decide) ?_
            refine lv_aload_n hx hb dL_law_379 rfl (lv_at hl 6 rfl) ?_
            refine lk_until hB hP hD hS hW (BI_of hI) gL_law_X7_untilRunning hl.1 (Nat.le_of_ble_eq_true rfl) dL_law_380 (fun Z H locs hW hP hD hS => ?_)
            refine W.eq (g2 := F0 m 383 ls [.int (-6), .int (nI 0)]) (by rw [euv]) ?_
            refine lv_if_lt (tgt := 390) hx hb dL_law_383 (by decide) (fun _ => ?_) (fun q => absurd (by decide) q)
            refine lv_iconst (v := (nI 0)) hx hb dL_law_390 (by decide) ?_
            refine lv_icmp_ne (tgt := 405) hx hb dL_law_391 (by decide) (fun q => absurd (show (nI 0) = (nI 0) from congrArg nI (show 0 = 0 by omega)) q) (fun _ => ?_)
            refine lv_aload_n hx hb dL_law_394 rfl (lv_at hl 6 rfl) ?_
            refine lk_undo hB hP hD hS hW gL_law_X7_undo hl.1 (Nat.le_of_ble_eq_true rfl) dL_law_395 (fun n9 H locs hn9 hS => ?_)
            refine lv_if_lt (tgt := 405) hx hb dL_law_398 (by decide) (fun q => absurd q (show ¬ (nI n9) < (0 : Int32) from nI_nlt (b := 0) (a := n9) (by omega) (by omega))) (fun _ => ?_)
            refine lv_iconst (v := (nI 1)) hx hb dL_law_401 (by decide) ?_
            refine lv_goto (tgt := 406) hx hb dL_law_402 (by decide) ?_
            exact fin H locs ls hS
          · refine lv_iload hx hb dL_law_369 (lv_at hl 1 rfl) ?_
            refine lv_if_lt (tgt := 378) hx hb dL_law_371 (by decide) (fun q => absurd q (show ¬ (nI mu) < (0 : Int32) from nI_nlt (b := 0) (a := mu) (by omega) (by omega))) (fun _ => ?_)
            refine lv_iconst (v := (nI 1)) hx hb dL_law_374 (by decide) ?_
            refine lv_goto (tgt := 379) hx hb dL_law_375 (by decide) ?_
            refine lv_aload_n hx hb dL_law_379 rfl (lv_at hl 6 rfl) ?_
            refine lk_until hB hP hD hS hW (BI_of hI) gL_law_X7_untilRunning hl.1 (Nat.le_of_ble_eq_true rfl) dL_law_380 (fun Z H locs hW hP hD hS => ?_)
            refine W.eq (g2 := F0 m 383 ls [.int (nI mu), .int (nI 1)]) (by rw [euv]) ?_
            refine lv_if_lt (tgt := 390) hx hb dL_law_383 (by decide) (fun q => absurd q (show ¬ (nI mu) < (0 : Int32) from nI_nlt (b := 0) (a := mu) (by omega) (by omega))) (fun _ => ?_)
            refine lv_iconst (v := (nI 1)) hx hb dL_law_386 (by decide) ?_
            refine lv_goto (tgt := 391) hx hb dL_law_387 (by decide) ?_
            refine lv_icmp_ne (tgt := 405) hx hb dL_law_391 (by decide) (fun q => absurd (show (nI 1) = (nI 1) from congrArg nI (show 1 = 1 by omega)) q) (fun _ => ?_)
            refine lv_aload_n hx hb dL_law_394 rfl (lv_at hl 6 rfl) ?_
            refine lk_undo hB hP hD hS hW gL_law_X7_undo hl.1 (Nat.le_of_ble_eq_true rfl) dL_law_395 (fun n9 H locs hn9 hS => ?_)
            refine lv_if_lt (tgt := 405) hx hb dL_law_398 (by decide) (fun q => absurd q (show ¬ (nI n9) < (0 : Int32) from nI_nlt (b := 0) (a := n9) (by omega) (by omega))) (fun _ => ?_)
            refine lv_iconst (v := (nI 1)) hx hb dL_law_401 (by decide) ?_
            refine lv_goto (tgt := 406) hx hb dL_law_402 (by decide) ?_
            exact fin H locs ls hS
        · refine lv_iload hx hb dL_law_301 (lv_at hl 2 rfl) ?_
          refine lv_if_lt (tgt := 365) hx hb dL_law_303 (by decide) (fun q => absurd q (show ¬ (nI (10 * q2)) < (0 : Int32) from nI_nlt (b := 0) (a := 10 * q2) (by omega) (by omega))) (fun _ => ?_)
          refine lv_aload_n hx hb dL_law_306 rfl (lv_at hl 6 rfl) ?_
          refine lv_iload hx hb dL_law_307 (lv_at hl 2 rfl) ?_
          have hI3 : SI t (sv 1 X (upd (X 1) 5 (nI (10 * q2)))) := SI_eng hI (rgEu_24 (SI_rg hI) (rgn (n := 10 * q2) (by omega) (by omega))) (by decide) (by decide)
          obtain ⟨mb, hmb1, hmb2⟩ := (FR_val (until_FR (SI_rg hI3))).resolve_left hl4
          refine lk_battery hB hP hD hS hW (n := 10 * q2) (by omega) (SI_bo hI3) gL_law_X7_battery hl.1 (Nat.le_of_ble_eq_true rfl) dL_law_309 (fun T Z H locs hW hP hD hS => ?_)
          refine W.eq (g2 := F0 m 312 ls [.int (nI ba)]) (by rw [qba]) ?_
          refine lv_if_lt (tgt := 363) hx hb dL_law_312 (by decide) (fun q => absurd q (show ¬ (nI ba) < (0 : Int32) from nI_nlt (b := 0) (a := ba) (by omega) (by omega))) (fun _ => ?_)
          refine lv_aload_n hx hb dL_law_315 rfl (lv_at hl 6 rfl) ?_
          refine lk_until hB hP hD hS hW (BI_of hI3) gL_law_X7_untilRunning hl.1 (Nat.le_of_ble_eq_true rfl) dL_law_316 (fun Z H locs hW hP hD hS => ?_)
          refine W.eq (g2 := F0 m 319 ls [.int (nI mb)]) (by rw [hmb2]) ?_
          refine lv_if_lt (tgt := 363) hx hb dL_law_319 (by decide) (fun q => absurd q (show ¬ (nI mb) < (0 : Int32) from nI_nlt (b := 0) (a := mb) (by omega) (by omega))) (fun _ => ?_)
          refine lv_iload hx hb dL_law_322 (lv_at hl 2 rfl) ?_
          rcases (show q2 = 0 ∨ 0 < q2 by omega) with hq2 | hq2
          · refine lv_if_eq (tgt := 350) hx hb dL_law_324 (by decide) (fun _ => ?_) (fun q => absurd (show (nI (10 * q2)) = (0 : Int32) from congrArg nI (show 10 * q2 = 0 by omega)) q)
            refine lv_aload_n hx hb dL_law_350 rfl (lv_at hl 6 rfl) ?_
            refine lv_iconst (v := (nI 1)) hx hb dL_law_351 (by decide) ?_
            refine lk_rest1 hB hP hD hS hW rfl gL_law_X7_restore hl.1 (Nat.le_of_ble_eq_true rfl) dL_law_352 (fun T Z H locs hW hP hD hS => ?_)
            refine W.eq (g2 := F0 m 355 ls [.int (nI t)]) (by rw [qt]) ?_
            refine lv_iload_n hx hb dL_law_355 rfl (lv_at hl 5 rfl) ?_
            refine lv_icmp_ne (tgt := 363) hx hb dL_law_356 (by decide) (fun q => absurd (show (nI t) = (nI t) from congrArg nI (show t = t by omega)) q) (fun _ => ?_)
            refine lv_iconst (v := (nI 1)) hx hb dL_law_359 (by decide) ?_
            refine lv_goto (tgt := 364) hx hb dL_law_360 (by decide) ?_
            refine lv_istore_n (lv' := [(2, .int (nI 1)), (7, .int uv), (6, .int (nI (10 * q2))), (5, .int (nI q1)), (4, .int (nI sp)), (3, .int (nI t)), (1, .ref (a 0)), (0, .ref b)]) hx hb dL_law_364 rfl hl (by decide) rfl (fun ls hl => ?_)
            refine lv_iload_n hx hb dL_law_365 rfl (lv_at hl 0 rfl) ?_
            refine lv_if_eq (tgt := 405) hx hb dL_law_366 (by decide) (fun q => absurd q (show ¬ (nI 1) = (0 : Int32) from fun z => absurd ((nI_eq (a := 1) (b := 0) (by omega) (by omega)).mp z) (by omega))) (fun _ => ?_)
            rcases hFR with ⟨rfl, hu2⟩ | ⟨mu, hu1, rfl, hu3, hu4⟩
            · refine lv_iload hx hb dL_law_369 (lv_at hl 1 rfl) ?_
              refine lv_if_lt (tgt := 378) hx hb dL_law_371 (by decide) (fun _ => ?_) (fun q => absurd (by decide) q)
              refine lv_iconst (v := (nI 0)) hx hb dL_law_378 (by decide) ?_
              refine lv_aload_n hx hb dL_law_379 rfl (lv_at hl 6 rfl) ?_
              refine lk_until hB hP hD hS hW (BI_of hI) gL_law_X7_untilRunning hl.1 (Nat.le_of_ble_eq_true rfl) dL_law_380 (fun Z H locs hW hP hD hS => ?_)
              refine W.eq (g2 := F0 m 383 ls [.int (-6), .int (nI 0)]) (by rw [euv]) ?_
              refine lv_if_lt (tgt := 390) hx hb dL_law_383 (by decide) (fun _ => ?_) (fun q => absurd (by decide) q)
              refine lv_iconst (v := (nI 0)) hx hb dL_law_390 (by decide) ?_
              refine lv_icmp_ne (tgt := 405) hx hb dL_law_391 (by decide) (fun q => absurd (show (nI 0) = (nI 0) from congrArg nI (show 0 = 0 by omega)) q) (fun _ => ?_)
              refine lv_aload_n hx hb dL_law_394 rfl (lv_at hl 6 rfl) ?_
              refine lk_undo hB hP hD hS hW gL_law_X7_undo hl.1 (Nat.le_of_ble_eq_true rfl) dL_law_395 (fun n9 H locs hn9 hS => ?_)
              refine lv_if_lt (tgt := 405) hx hb dL_law_398 (by decide) (fun q => absurd q (show ¬ (nI n9) < (0 : Int32) from nI_nlt (b := 0) (a := n9) (by omega) (by omega))) (fun _ => ?_)
              refine lv_iconst (v := (nI 1)) hx hb dL_law_401 (by decide) ?_
              refine lv_goto (tgt := 406) hx hb dL_law_402 (by decide) ?_
              exact fin H locs ls hS
            · refine lv_iload hx hb dL_law_369 (lv_at hl 1 rfl) ?_
              refine lv_if_lt (tgt := 378) hx hb dL_law_371 (by decide) (fun q => absurd q (show ¬ (nI mu) < (0 : Int32) from nI_nlt (b := 0) (a := mu) (by omega) (by omega))) (fun _ => ?_)
              refine lv_iconst (v := (nI 1)) hx hb dL_law_374 (by decide) ?_
              refine lv_goto (tgt := 379) hx hb dL_law_375 (by decide) ?_
              refine lv_aload_n hx hb dL_law_379 rfl (lv_at hl 6 rfl) ?_
              refine lk_until hB hP hD hS hW (BI_of hI) gL_law_X7_untilRunning hl.1 (Nat.le_of_ble_eq_true rfl) dL_law_380 (fun Z H locs hW hP hD hS => ?_)
              refine W.eq (g2 := F0 m 383 ls [.int (nI mu), .int (nI 1)]) (by rw [euv]) ?_
              refine lv_if_lt (tgt := 390) hx hb dL_law_383 (by decide) (fun q => absurd q (show ¬ (nI mu) < (0 : Int32) from nI_nlt (b := 0) (a := mu) (by omega) (by omega))) (fun _ => ?_)
              refine lv_iconst (v := (nI 1)) hx hb dL_law_386 (by decide) ?_
              refine lv_goto (tgt := 391) hx hb dL_law_387 (by decide) ?_
              refine lv_icmp_ne (tgt := 405) hx hb dL_law_391 (by decide) (fun q => absurd (show (nI 1) = (nI 1) from congrArg nI (show 1 = 1 by omega)) q) (fun _ => ?_)
              refine lv_aload_n hx hb dL_law_394 rfl (lv_at hl 6 rfl) ?_
              refine lk_undo hB hP hD hS hW gL_law_X7_undo hl.1 (Nat.le_of_ble_eq_true rfl) dL_law_395 (fun n9 H locs hn9 hS => ?_)
              refine lv_if_lt (tgt := 405) hx hb dL_law_398 (by decide) (fun q => absurd q (show ¬ (nI n9) < (0 : Int32) from nI_nlt (b := 0) (a := n9) (by omega) (by omega))) (fun _ => ?_)
              refine lv_iconst (v := (nI 1)) hx hb dL_law_401 (by decide) ?_
              refine lv_goto (tgt := 406) hx hb dL_law_402 (by decide) ?_
              exact fin H locs ls hS
          · refine lv_if_eq (tgt := 350) hx hb dL_law_324 (by decide) (fun q => absurd q (show ¬ (nI (10 * q2)) = (0 : Int32) from fun z => absurd ((nI_eq (a := 10 * q2) (b := 0) (by omega) (by omega)).mp z) (by omega))) (fun _ => ?_)
            refine lv_aload_n hx hb dL_law_327 rfl (lv_at hl 6 rfl) ?_
            refine lv_iload hx hb dL_law_328 (lv_at hl 2 rfl) ?_
            refine lv_bipush (v := (nI 10)) hx hb dL_law_330 (by decide) ?_
            refine lv_isub hx hb dL_law_332 ?_
            refine W.eq (g2 := F0 m 333 ls [.int (nI (10 * q2 - 10)), .ref (a 0)]) (by rw [pk_sub (by omega)]) ?_
            have hI4 : SI t (sv 1 (sv 1 X (upd (X 1) 5 (nI (10 * q2)))) (upd ((sv 1 X (upd (X 1) 5 (nI (10 * q2)))) 1) 5 (nI (10 * q2 - 10)))) := SI_eng hI3 (rgEu_24 (SI_rg hI3) (rgn (n := 10 * q2 - 10) (by omega) (by omega))) (by decide) (by decide)
            have hu4 : (uP 1 301 0 (sv 1 (sv 1 X (upd (X 1) 5 (nI (10 * q2)))) (upd ((sv 1 X (upd (X 1) 5 (nI (10 * q2)))) 1) 5 (nI (10 * q2 - 10))))).1 = -6 := by
                rw [sv_us, sv_sv, upd2, show 10 * q2 - 10 = 10 * (q2 - 1) by omega]
                exact hl5 (q2 - 1) (by omega) (by omega)
            refine lk_battery hB hP hD hS hW (n := 10 * q2 - 10) (by omega) (SI_bo hI4) gL_law_X7_battery hl.1 (Nat.le_of_ble_eq_true rfl) dL_law_333 (fun T Z H locs hW hP hD hS => ?_)
            refine W.eq (g2 := F0 m 336 ls [.int (nI (10 * q2))]) (by rw [show (sv 1 X (upd (X 1) 5 (nI (10 * q2)))) 1 5 = nI (10 * q2) from rfl]) ?_
            refine lv_iload hx hb dL_law_336 (lv_at hl 2 rfl) ?_
            refine lv_icmp_ne (tgt := 363) hx hb dL_law_338 (by decide) (fun q => absurd (show (nI (10 * q2)) = (nI (10 * q2)) from congrArg nI (show 10 * q2 = 10 * q2 by omega)) q) (fun _ => ?_)
            refine lv_aload_n hx hb dL_law_341 rfl (lv_at hl 6 rfl) ?_
            refine lk_until hB hP hD hS hW (BI_of hI4) gL_law_X7_untilRunning hl.1 (Nat.le_of_ble_eq_true rfl) dL_law_342 (fun Z H locs hW hP hD hS => ?_)
            refine W.eq (g2 := F0 m 345 ls [.int (-6)]) (by rw [hu4]) ?_
            refine lv_bipush (v := (-6)) hx hb dL_law_345 (by decide) ?_
            refine lv_icmp_ne (tgt := 363) hx hb dL_law_347 (by decide) (fun q => absurd rfl q) (fun _ => ?_)
            refine lv_aload_n hx hb dL_law_350 rfl (lv_at hl 6 rfl) ?_
            refine lv_iconst (v := (nI 1)) hx hb dL_law_351 (by decide) ?_
            refine lk_rest1 hB hP hD hS hW rfl gL_law_X7_restore hl.1 (Nat.le_of_ble_eq_true rfl) dL_law_352 (fun T Z H locs hW hP hD hS => ?_)
            refine W.eq (g2 := F0 m 355 ls [.int (nI t)]) (by rw [qt]) ?_
            refine lv_iload_n hx hb dL_law_355 rfl (lv_at hl 5 rfl) ?_
            refine lv_icmp_ne (tgt := 363) hx hb dL_law_356 (by decide) (fun q => absurd (show (nI t) = (nI t) from congrArg nI (show t = t by omega)) q) (fun _ => ?_)
            refine lv_iconst (v := (nI 1)) hx hb dL_law_359 (by decide) ?_
            refine lv_goto (tgt := 364) hx hb dL_law_360 (by decide) ?_
            refine lv_istore_n (lv' := [(2, .int (nI 1)), (7, .int uv), (6, .int (nI (10 * q2))), (5, .int (nI q1)), (4, .int (nI sp)), (3, .int (nI t)), (1, .ref (a 0)), (0, .ref b)]) hx hb dL_law_364 rfl hl (by decide) rfl (fun ls hl => ?_)
            refine lv_iload_n hx hb dL_law_365 rfl (lv_at hl 0 rfl) ?_
            refine lv_if_eq (tgt := 405) hx hb dL_law_366 (by decide) (fun q => absurd q (show ¬ (nI 1) = (0 : Int32) from fun z => absurd ((nI_eq (a := 1) (b := 0) (by omega) (by omega)).mp z) (by omega))) (fun _ => ?_)
            rcases hFR with ⟨rfl, hu2⟩ | ⟨mu, hu1, rfl, hu3, hu4⟩
            · refine lv_iload hx hb dL_law_369 (lv_at hl 1 rfl) ?_
              refine lv_if_lt (tgt := 378) hx hb dL_law_371 (by decide) (fun _ => ?_) (fun q => absurd (by decide) q)
              refine lv_iconst (v := (nI 0)) hx hb dL_law_378 (by decide) ?_
              refine lv_aload_n hx hb dL_law_379 rfl (lv_at hl 6 rfl) ?_
              refine lk_until hB hP hD hS hW (BI_of hI) gL_law_X7_untilRunning hl.1 (Nat.le_of_ble_eq_true rfl) dL_law_380 (fun Z H locs hW hP hD hS => ?_)
              refine W.eq (g2 := F0 m 383 ls [.int (-6), .int (nI 0)]) (by rw [euv]) ?_
              refine lv_if_lt (tgt := 390) hx hb dL_law_383 (by decide) (fun _ => ?_) (fun q => absurd (by decide) q)
              refine lv_iconst (v := (nI 0)) hx hb dL_law_390 (by decide) ?_
              refine lv_icmp_ne (tgt := 405) hx hb dL_law_391 (by decide) (fun q => absurd (show (nI 0) = (nI 0) from congrArg nI (show 0 = 0 by omega)) q) (fun _ => ?_)
              refine lv_aload_n hx hb dL_law_394 rfl (lv_at hl 6 rfl) ?_
              refine lk_undo hB hP hD hS hW gL_law_X7_undo hl.1 (Nat.le_of_ble_eq_true rfl) dL_law_395 (fun n9 H locs hn9 hS => ?_)
              refine lv_if_lt (tgt := 405) hx hb dL_law_398 (by decide) (fun q => absurd q (show ¬ (nI n9) < (0 : Int32) from nI_nlt (b := 0) (a := n9) (by omega) (by omega))) (fun _ => ?_)
              refine lv_iconst (v := (nI 1)) hx hb dL_law_401 (by decide) ?_
              refine lv_goto (tgt := 406) hx hb dL_law_402 (by decide) ?_
              exact fin H locs ls hS
            · refine lv_iload hx hb dL_law_369 (lv_at hl 1 rfl) ?_
              refine lv_if_lt (tgt := 378) hx hb dL_law_371 (by decide) (fun q => absurd q (show ¬ (nI mu) < (0 : Int32) from nI_nlt (b := 0) (a := mu) (by omega) (by omega))) (fun _ => ?_)
              refine lv_iconst (v := (nI 1)) hx hb dL_law_374 (by decide) ?_
              refine lv_goto (tgt := 379) hx hb dL_law_375 (by decide) ?_
              refine lv_aload_n hx hb dL_law_379 rfl (lv_at hl 6 rfl) ?_
              refine lk_until hB hP hD hS hW (BI_of hI) gL_law_X7_untilRunning hl.1 (Nat.le_of_ble_eq_true rfl) dL_law_380 (fun Z H locs hW hP hD hS => ?_)
              refine W.eq (g2 := F0 m 383 ls [.int (nI mu), .int (nI 1)]) (by rw [euv]) ?_
              refine lv_if_lt (tgt := 390) hx hb dL_law_383 (by decide) (fun q => absurd q (show ¬ (nI mu) < (0 : Int32) from nI_nlt (b := 0) (a := mu) (by omega) (by omega))) (fun _ => ?_)
              refine lv_iconst (v := (nI 1)) hx hb dL_law_386 (by decide) ?_
              refine lv_goto (tgt := 391) hx hb dL_law_387 (by decide) ?_
              refine lv_icmp_ne (tgt := 405) hx hb dL_law_391 (by decide) (fun q => absurd (show (nI 1) = (nI 1) from congrArg nI (show 1 = 1 by omega)) q) (fun _ => ?_)
              refine lv_aload_n hx hb dL_law_394 rfl (lv_at hl 6 rfl) ?_
              refine lk_undo hB hP hD hS hW gL_law_X7_undo hl.1 (Nat.le_of_ble_eq_true rfl) dL_law_395 (fun n9 H locs hn9 hS => ?_)
              refine lv_if_lt (tgt := 405) hx hb dL_law_398 (by decide) (fun q => absurd q (show ¬ (nI n9) < (0 : Int32) from nI_nlt (b := 0) (a := n9) (by omega) (by omega))) (fun _ => ?_)
              refine lv_iconst (v := (nI 1)) hx hb dL_law_401 (by decide) ?_
              refine lv_goto (tgt := 406) hx hb dL_law_402 (by decide) ?_
              exact fin H locs ls hS
  · refine lv_iload_n hx hb dL_law_78 rfl (lv_at hl 0 rfl) ?_
    refine lv_bipush (v := (nI 40)) hx hb dL_law_79 (by decide) ?_
    refine lv_icmp_ge (tgt := 126) hx hb dL_law_81 (by decide) (fun q => absurd q (show ¬ (nI 40) ≤ (nI i) from nI_ge (a := i) (b := 40) (by omega) (by omega))) (fun _ => ?_)
    refine lv_iload_n hx hb dL_law_84 rfl (lv_at hl 1 rfl) ?_
    refine lv_if_eq (tgt := 126) hx hb dL_law_85 (by decide) (fun q => absurd q (show ¬ (nI 1) = (0 : Int32) from fun z => absurd ((nI_eq (a := 1) (b := 0) (by omega) (by omega)).mp z) (by omega))) (fun _ => ?_)
    refine lv_aload_n hx hb dL_law_88 rfl (lv_at hl 2 rfl) ?_
    refine lv_aload_n hx hb dL_law_89 rfl (lv_at hl 3 rfl) ?_
    refine lv_iload_n hx hb dL_law_90 rfl (lv_at hl 0 rfl) ?_
    refine lk_cell hB hP hD hS hX hbl hbA (by omega) (k := i) (by omega) gL_law_L_cell hl.1 (Nat.le_of_ble_eq_true rfl) dL_law_91 (fun u H locs hu hP hD hS => ?_)
    refine lcS (n := 2) (As := [.ref (a 0), .int (nI u)]) hB hP hD hS (ct_L_acts l D y a bb T Z X 0 0 iX iX t u hI (by omega) hu hW) gL_law_L_acts rfl (by decide +kernel) ⟨by decide, by decide⟩ ⟨rfl, rfl⟩ rfl hl.1 rfl (Nat.le_of_ble_eq_true rfl) dL_law_94 (fun T Z H locs hG hP hD hS => ?_)
    obtain ⟨n2, X2, hn2, hI2, hW⟩ := hG
    refine lv_if_eq (tgt := 118) hx hb dL_law_97 (by decide) (fun q => absurd q (show ¬ (nI 1) = (0 : Int32) from fun z => absurd ((nI_eq (a := 1) (b := 0) (by omega) (by omega)).mp z) (by omega))) (fun _ => ?_)
    refine lv_iload_n hx hb dL_law_100 rfl (lv_at hl 0 rfl) ?_
    refine lv_bipush (v := (nI 8)) hx hb dL_law_101 (by decide) ?_
    refine lv_irem hx hb dL_law_103 (by decide) ?_
    obtain ⟨u1, hu1, eu1⟩ := rem_ex (c := i) (d := 8) (by omega) (by omega) (by omega)
    refine W.eq (g2 := F0 m 104 ls [.int (nI u1)]) (by rw [eu1]) ?_
    rcases (show u1 = 0 ∨ 0 < u1 by omega) with hr8 | hr8
    · refine lv_if_gt (tgt := 114) hx hb dL_law_104 (by decide) (fun q => absurd q (show ¬ (0 : Int32) < (nI u1) from nI_nlt (b := u1) (a := 0) (by omega) (by omega))) (fun _ => ?_)
      refine lv_aload_n hx hb dL_law_107 rfl (lv_at hl 2 rfl) ?_
      refine lcS (n := 1) (As := [.ref (a 0)]) hB hP hD hS (ct_L_isEngine l D y a bb T Z X2 0 0 iX iX 1 (t + n2) hI2 (by omega) hW) gL_law_L_isEngine rfl (by decide +kernel) ⟨by decide, by decide⟩ ⟨rfl, rfl⟩ rfl hl.1 rfl (Nat.le_of_ble_eq_true rfl) dL_law_108 (fun T Z H locs hG hP hD hS => ?_)
      have hW := hG
      refine lv_if_eq (tgt := 118) hx hb dL_law_111 (by decide) (fun q => absurd q (show ¬ (nI 1) = (0 : Int32) from fun z => absurd ((nI_eq (a := 1) (b := 0) (by omega) (by omega)).mp z) (by omega))) (fun _ => ?_)
      refine lv_iconst (v := (nI 1)) hx hb dL_law_114 (by decide) ?_
      refine lv_goto (tgt := 119) hx hb dL_law_115 (by decide) ?_
      refine lv_istore_n (lv' := [(2, .int (nI 1)), (3, .int (nI i)), (1, .ref (a 0)), (0, .ref b)]) hx hb dL_law_119 rfl hl (by decide) rfl (fun ls hl => ?_)
      refine lv_iinc (v := (nI (i + 1))) (lv' := [(3, .int (nI (i + 1))), (2, .int (nI 1)), (1, .ref (a 0)), (0, .ref b)]) hx hb dL_law_120 hl (k := 1) rfl (by rw [show (Int32.ofInt 1 : Int32) = nI 1 from by decide, nI_add]) (by decide) rfl (fun ls hl => ?_)
      refine lv_goto (tgt := 78) hx hb dL_law_123 (by decide) ?_
      exact ih nn (Nat.lt_succ_self nn) _ _ _ ⟨i + 1, t + n2, X2, T, Z, _, by omega, by omega, hI2, hW, rfl, lv_sub hl [0, 1, 2, 3] rfl, hP, hD, hS⟩
    · refine lv_if_gt (tgt := 114) hx hb dL_law_104 (by decide) (fun _ => ?_) (fun q => absurd (show (0 : Int32) < (nI u1) from nI_lt (a := 0) (b := u1) (by omega) (by omega)) q)
      refine lv_iconst (v := (nI 1)) hx hb dL_law_114 (by decide) ?_
      refine lv_goto (tgt := 119) hx hb dL_law_115 (by decide) ?_
      refine lv_istore_n (lv' := [(2, .int (nI 1)), (3, .int (nI i)), (1, .ref (a 0)), (0, .ref b)]) hx hb dL_law_119 rfl hl (by decide) rfl (fun ls hl => ?_)
      refine lv_iinc (v := (nI (i + 1))) (lv' := [(3, .int (nI (i + 1))), (2, .int (nI 1)), (1, .ref (a 0)), (0, .ref b)]) hx hb dL_law_120 hl (k := 1) rfl (by rw [show (Int32.ofInt 1 : Int32) = nI 1 from by decide, nI_add]) (by decide) rfl (fun ls hl => ?_)
      refine lv_goto (tgt := 78) hx hb dL_law_123 (by decide) ?_
      exact ih nn (Nat.lt_succ_self nn) _ _ _ ⟨i + 1, t + n2, X2, T, Z, _, by omega, by omega, hI2, hW, rfl, lv_sub hl [0, 1, 2, 3] rfl, hP, hD, hS⟩
