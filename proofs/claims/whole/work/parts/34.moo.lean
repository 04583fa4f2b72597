theorem nbM9 (Y : Nat → Nat → Int32) (q : Nat) (p1 : Int32) (k : Nat) (hk : k ≠ 11) : ∀ (n : Nat) (r o : Nat → Int32), (nbM Y q p1 n r o).2 k = o k
  | 0, _, _ => rfl
  | n + 1, r, o => by
    rw [nbM_s]
    by_cases c1 : r q ≤ 0
    · rw [if_pos c1]
    · rw [if_neg c1]
      by_cases c2 : r_X8_isSign (sv 0 (sv 7 Y r) o) 48 57 = 0
      · rw [if_pos c2]
      · rw [if_neg c2]
        by_cases c3 : p1 < (10 * r q + Y 8 (o 11).toNatClampNeg) - 48
        · rw [if_pos c3]
        · rw [if_neg c3, nbM9 Y q p1 k hk n, pk_un hk]
theorem nb9 (Y : Nat → Nat → Int32) (p0 p1 : Int32) (d k : Nat) (hk : k ≠ 11) : (m_X8_number_Y_0 Y p0 p1 d) k = Y 0 k := by
  unfold m_X8_number_Y_0
  by_cases c : r_X8_isSign (sv 7 Y (upd (Y 7) (2 * d + 1) 0)) (if p0 = 0 then 48 else 49) 57 = 0
  · rw [if_pos c]
  · rw [if_neg c]
    unfold nbS
    rw [nbM9 _ _ _ k hk, pk_un hk]
theorem ac9 (X : Nat → Nat → Int32) (p0 : Int32) (k : Nat) (hk : k ≠ 11) : (m_X8_accepts_Y_0 X p0) k = X 0 k := by
  unfold m_X8_accepts_Y_0
  exact pk_un hk
theorem ac9s (X : Nat → Nat → Int32) (p0 : Int32) (k : Nat) (hk : k ≠ 11) : (sv 0 X (m_X8_accepts_Y_0 X p0)) 0 k = X 0 k := by
  rw [sv_us]
  exact ac9 X p0 k hk
theorem rd9 (Y : Nat → Nat → Int32) (d k : Nat) (hk : k ≠ 11) (hk2 : k ≠ 10) : (m_X8_readsDeed_Y_0 Y d) k = Y 0 k := by
  have i1 : (sv 7 Y (upd (Y 7) (2 * d) (v_X8_readsDeed_1 Y))) 0 k = Y 0 k := by rw [sv_un (by decide)]
  have i2 : (x_X8_readsDeed_2 Y d) 0 k = Y 0 k := (ac9s _ _ k hk).trans i1
  have i3 : (x_X8_readsDeed_3 Y d) 0 k = Y 0 k := (ac9s _ _ k hk).trans i2
  have i4 : (x_X8_readsDeed_4 Y d) 0 k = Y 0 k := (ac9s _ _ k hk).trans i3
  have i5 : (x_X8_readsDeed_5 Y d) 0 k = Y 0 k := (ac9s _ _ k hk).trans i4
  have i6 : (x_X8_readsDeed_6 Y d) 0 k = Y 0 k := by
    unfold x_X8_readsDeed_6
    rw [sv_us, nb9 _ _ _ _ k hk]
    exact i3
  have i9 : (x_X8_readsDeed_9 Y d) 0 k = Y 0 k := by
    unfold x_X8_readsDeed_9
    rw [sv_us, nb9 _ _ _ _ k hk]
    exact i2
  unfold m_X8_readsDeed_Y_0
  by_cases c1 : r_X8_accepts (sv 7 Y (upd (Y 7) (2 * d) (v_X8_readsDeed_1 Y))) 102 = 0
  · rw [if_pos c1]
    by_cases c2 : r_X8_accepts (x_X8_readsDeed_2 Y d) 46 = 0
    · rw [if_pos c2]
      by_cases c3 : r_X8_accepts (x_X8_readsDeed_3 Y d) 99 = 0
      · rw [if_pos c3]
        by_cases c4 : r_X8_accepts (x_X8_readsDeed_4 Y d) 115 = 0
        · rw [if_pos c4, pk_un hk2]
          exact i5
        · rw [if_neg c4, pk_un hk2]
          exact i5
      · rw [if_neg c3, pk_un hk2]
        exact i4
    · rw [if_neg c2, pk_un hk2]
      exact i6
  · rw [if_neg c1, pk_un hk2]
    exact i9
theorem foM9 (Y : Nat → Nat → Int32) (k : Nat) (hk : k ≠ 11) (hk2 : k ≠ 10) : ∀ (n d : Nat) (r o : Nat → Int32) (ok : Int32), (foM Y n d r o ok).2.2 k = o k
  | 0, _, _, _, _ => rfl
  | n + 1, d, r, o, ok => by
    have e1 : (sv 0 (sv 7 Y r) o) 0 k = o k := by rw [sv_us]
    have e2 := (ac9 (sv 0 (sv 7 Y r) o) 59 k hk).trans e1
    have e3 := (rd9 (sv 0 (sv 0 (sv 7 Y r) o) (m_X8_accepts_Y_0 (sv 0 (sv 7 Y r) o) 59)) d k hk hk2).trans ((ac9s (sv 0 (sv 7 Y r) o) 59 k hk).trans e1)
    rw [foM_s]
    by_cases c1 : ok = 0
    · rw [if_pos c1]
    · rw [if_neg c1]
      by_cases c2 : o 8 ≤ o 11
      · rw [if_pos c2]
      · rw [if_neg c2]
        by_cases c3 : (r_X8_accepts (sv 0 (sv 7 Y r) o) 59) = 0
        · rw [if_pos c3, foM9 Y k hk hk2 n]
          exact e2
        · rw [if_neg c3]
          by_cases c4 : r_X8_readsDeed (sv 0 (sv 0 (sv 7 Y r) o) (m_X8_accepts_Y_0 (sv 0 (sv 7 Y r) o) 59)) d = 0
          · rw [if_pos c4, foM9 Y k hk hk2 n]
            exact e3
          · rw [if_neg c4, foM9 Y k hk hk2 n]
            exact e3
theorem fo9 (Y : Nat → Nat → Int32) (k : Nat) (hk : k ≠ 11) (hk2 : k ≠ 10) : (fo Y).2.2 k = Y 0 k := by
  unfold fo
  rw [foM9 _ k hk hk2, rd9 _ _ k hk hk2, sv_us, pk_un hk2, pk_un hk]
theorem foMd (Y : Nat → Nat → Int32) : ∀ (n d i : Nat) (r o : Nat → Int32) (ok : Int32), jAt o → o 10 = nI d → o 8 = Y 0 8 → foK ok o d i → d ≤ 31 → ∃ D, D ≤ 31 ∧ (foM Y n d r o ok).2.2 10 = nI D
  | 0, d, _, _, _, _, _, h10, _, _, hd => ⟨d, hd, h10⟩
  | n + 1, d, i, r, o, ok, hj, h10, h8, hk, hd => by
    rw [foM_s]
    by_cases c1 : ok = 0
    · rw [if_pos c1]
      exact ⟨d, hd, h10⟩
    · rw [if_neg c1]
      by_cases c2 : o 8 ≤ o 11
      · rw [if_pos c2]
        exact ⟨d, hd, h10⟩
      · rw [if_neg c2]
        have hd30 := foN hj c2 hk c1
        by_cases c3 : (r_X8_accepts (sv 0 (sv 7 Y r) o) 59) = 0
        · rw [if_pos c3]
          obtain ⟨g1, g2, g3⟩ := foS0 (rc := r) hj h10 h8
          exact foMd Y n d (i + 1) _ _ _ g1 g2 g3 (Or.inl rfl) hd
        · rw [if_neg c3]
          obtain ⟨g1, g2, g3, g4⟩ := foS (rc := r) hj h10 h8 hk c1 c3
          by_cases c4 : r_X8_readsDeed (sv 0 (sv 0 (sv 7 Y r) o) (m_X8_accepts_Y_0 (sv 0 (sv 7 Y r) o) 59)) d = 0
          · rw [if_pos c4]
            exact foMd Y n d (i + 1) _ _ _ g1 (g3 c4) g2 (Or.inl rfl) hd
          · rw [if_neg c4]
            exact foMd Y n (d + 1) (i + 1) _ _ _ g1 (g4 c4).1 g2 (g4 c4).2 (by omega)
theorem foDn {Y : Nat → Nat → Int32} (h : jLn (Y 0)) : ∃ D, D ≤ 31 ∧ (fo Y).2.2 10 = nI D := by
  obtain ⟨g1, g2, g3, g4⟩ := foI h
  exact foMd Y 61 (foD0 Y) 0 _ _ _ g1 g2 g3 g4 (by unfold foD0; split <;> omega)
theorem doLg {Y : Nat → Nat → Int32} {e : Nat} (h : jLg (Y 1)) : jLg (m_X8_does_Y_1 Y e) := by
  have key : ∀ {f g : Nat → Int32}, g 30 = f 30 → jLg f → jLg g := fun e h => ⟨by rw [e]; exact h.1, by rw [e]; exact h.2⟩
  unfold m_X8_does_Y_1 x_X8_does_1 x_X8_does_2 x_X8_does_3 x_X8_does_4
  simp only [sv_us]
  refine ite_p ?_ (ite_p ?_ (ite_p ?_ ?_))
  · unfold m_X8_starts_Y_1
    (repeat' split) <;> first | exact h | exact key (by first | rfl | (simp only [pk_un (show (30 : Nat) ≠ 22 by decide), pk_un (show (30 : Nat) ≠ 25 by decide), pk_un (show (30 : Nat) ≠ 26 by decide), pk_un (show (30 : Nat) ≠ 27 by decide), pk_un (show (30 : Nat) ≠ 28 by decide), pk_un (show (30 : Nat) ≠ 29 by decide)])) h
  · unfold m_X8_fuels_Y_1
    (repeat' split) <;> first | exact h | exact key (pk_un (by decide)) h
  · unfold m_X8_sparks_Y_1
    (repeat' split) <;> first | exact h | exact key (pk_un (by decide)) h
  · unfold m_X8_passes_Y_1
    have pmL : ∀ (n : Nat) (f : Nat → Int32), jLg f → jLg (pM Y n f) := by
      intro n
      induction n with
      | zero => exact fun _ h => h
      | succ n ih => exact fun f h => by rw [pM_s]; exact ih _ (tkfLg Y h)
    (repeat' split) <;> first | exact h | exact pmL _ _ h
theorem sv_selfx {i : Nat} {X : Nat → Nat → Int32} {f : Nat → Int32} (h : X i = f) : sv i X f = X := by
  rw [← h]
  exact sv_self
def rnM (W : Nat → Nat → Int32) : Nat → Nat → Int32 → (Nat → Int32) → Int32 × (Nat → Int32)
  | 0, _, dn, f => (dn, f)
  | n + 1, i, dn, f => rnM W n (i + 1) (dn + (if (r_X8_does (sv 1 W f) i) < 0 then 0 else 1)) (m_X8_does_Y_1 (sv 1 W f) i)
theorem rnM_s (W : Nat → Nat → Int32) (n i : Nat) (dn : Int32) (f : Nat → Int32) : rnM W (n + 1) i dn f = rnM W n (i + 1) (dn + (if (r_X8_does (sv 1 W f) i) < 0 then 0 else 1)) (m_X8_does_Y_1 (sv 1 W f) i) := rfl
theorem rnSt {Y : Nat → Nat → Int32} {f g : Nat → Int32} (h : jSt f) (e : g 9 = f 9) : jSt (sv 0 Y g 0) := by
  rw [sv_us]
  exact ⟨by rw [e]; exact h.1, by rw [e]; exact h.2⟩
theorem rnW (W : Nat → Nat → Int32) (f g : Nat → Int32) : sv 1 (sv 1 W f) g = sv 1 W g := sv_sv
theorem rnP {D : va_G} {H : Heap} {y : Nat → ClassId} {a : Nat → Nat} {W : Nat → Nat → Int32} {f g : Nat → Int32} (h : va_P D vwCl ([modW y a (sv 1 (sv 1 W f) g)]).flatten H) : va_P D vwCl ([modW y a (sv 1 W g)]).flatten H := by
  rw [sv_sv] at h
  exact h
theorem rnD {A : Nat → Prop} {y : Nat → ClassId} {a : Nat → Nat} {W : Nat → Nat → Int32} {f g : Nat → Int32} (h : va_D A ([modW y a (sv 1 (sv 1 W f) g)]).flatten) : va_D A ([modW y a (sv 1 W g)]).flatten := by
  rw [sv_sv] at h
  exact h
def rnX (Y : Nat → Nat → Int32) : Nat → Nat → Int32 := sv 0 (sv 7 Y ((fo Y).2.1)) ((fo Y).2.2)
def rnW0 (Y : Nat → Nat → Int32) : Nat → Nat → Int32 := sv 2 (rnX Y) (m_X8_hold_Y_2 (rnX Y))
def rnE (Y : Nat → Nat → Int32) : Int32 × (Nat → Int32) := rnM (rnW0 Y) (((fo Y).2.2) 10).toNatClampNeg 0 0 (Y 1)
def rnZ (Y : Nat → Nat → Int32) : Nat → Nat → Int32 := sv 0 (sv 1 (rnW0 Y) (rnE Y).2) (upd ((rnW0 Y) 0) 8 0)
def r_X8_run (Y : Nat → Nat → Int32) : Int32 := if (foR Y) < 0 then r_X8_recorded (rnZ Y) (rnE Y).1 else -3
def m_X8_run (Y : Nat → Nat → Int32) : Nat → Nat → Int32 := if (foR Y) < 0 then sv 4 (sv 0 (rnZ Y) (m_X8_recorded_Y_0 (rnZ Y) (rnE Y).1)) (m_X8_recorded_Y_4 (rnZ Y) (rnE Y).1) else rnX Y
def v_X8_run_1 (Y : Nat → Nat → Int32) (i : Nat) (fc : Nat → Int32) : Int32 := (if (r_X8_does (sv 1 (rnW0 Y) fc) i) < 0 then 0 else 1)
set_option maxHeartbeats 4000000 in
set_option maxRecDepth 100000 in
theorem ct_X8_run (l : Launch) (D : va_G) (y : Nat → ClassId) (a : Nat → Nat) (Y : Nat → Nat → Int32) (hln : jLn (Y 0)) (hst : jSt (Y 0)) (hlg : jLg (Y 1)) : jI l D y yX8_run wsX8_run ({ frames := 5, cells := 0, slots := 0, locals := 115 } : Room) [.ref (a 0)] ([modW y a Y]) (r_X8_run Y) ([modW y a (m_X8_run Y)]) := by
  refine jI_of (cc := cX8_run) (maxL := 3) (ty := .int) (by decide) rfl (Nat.le_of_ble_eq_true rfl) ?_
  intro p e s m below meth c A ls hx hb hr hlocks hml hown hts hE hZ hA hP hD hS hl
  have hown : s.vm.findClass RX8 = some m.cls := hown
  have hl : lv_has ls 3 [(0, .ref (a 0))] := hl
  have hu8 : ∀ w ∈ wsX80, w ∈ wsX8_run := fun _ h => List.mem_cons_of_mem _ (List.mem_append_right _ h)
  obtain ⟨nd, hnd31, hnd⟩ := foDn hln
  refine lv_aload_n hx hb dX8_run_0 rfl (lv_at hl 0 rfl) ?_
  refine jVi (n := 0) (is := [0]) (bs' := [modW y a (sv 0 (sv 7 Y ((fo Y).2.1)) ((fo Y).2.2))]) hx hb hml hown hts hE hZ hA hP hD hS (ct_X8_faultOf l D y a Y hln) rfl rfl ((show ∀ (fg1 : Nat → Int32) (fg2 : Nat → Int32), List.map (List.map Prod.fst) ([modW y a (sv 0 (sv 7 Y fg1) fg2)]) = List.map (List.map Prod.fst) ([modW y a Y]) from fun _ _ => rfl) ((fo Y).2.1) ((fo Y).2.2)) ((show ∀ (fg1 : Nat → Int32) (fg2 : Nat → Int32), jPut ([modW y a Y]) [0] ([modW y a (sv 0 (sv 7 Y fg1) fg2)]) = [modW y a (sv 0 (sv 7 Y fg1) fg2)] from fun _ _ => rfl) ((fo Y).2.1) ((fo Y).2.2)) gX8_run_X8_faultOf rfl (by decide +kernel) ⟨by decide, by decide⟩ ⟨rfl, rfl⟩ (kb := 0) rfl (q0 := 0) (ci := 8) rfl rfl rfl rfl hl.1 rfl (Nat.le_of_ble_eq_true rfl) ⟨Nat.zero_le _, Nat.zero_le _⟩ dX8_run_1 (fun H locs hP hD hS => ?_)
  refine lv_if_lt (tgt := 10) hx hb dX8_run_4 (by decide) (fun c1 => ?_) (fun c1 => ?_)
  · refine lv_aload_n hx hb dX8_run_10 rfl (lv_at hl 0 rfl) ?_
    refine jVv (n := 0) (is := [0]) (bs' := [modW y a (sv 2 (rnX Y) (m_X8_hold_Y_2 (rnX Y)))]) hx hb hml hown hts hE hZ hA hP hD hS (ct_X8_hold l D y a (rnX Y)) rfl rfl ((show ∀ (Xg1 : Nat → Nat → Int32) (fg2 : Nat → Int32), List.map (List.map Prod.fst) ([modW y a (sv 2 Xg1 fg2)]) = List.map (List.map Prod.fst) ([modW y a Xg1]) from fun _ _ => rfl) (rnX Y) (m_X8_hold_Y_2 (rnX Y))) ((show ∀ (Xg1 : Nat → Nat → Int32) (fg2 : Nat → Int32), jPut ([modW y a Xg1]) [0] ([modW y a (sv 2 Xg1 fg2)]) = [modW y a (sv 2 Xg1 fg2)] from fun _ _ => rfl) (rnX Y) (m_X8_hold_Y_2 (rnX Y))) gX8_run_X8_hold rfl (by decide +kernel) ⟨by decide, by decide⟩ ⟨rfl, rfl⟩ (kb := 0) rfl (q0 := 0) (ci := 8) rfl rfl rfl rfl hl.1 rfl (Nat.le_of_ble_eq_true rfl) ⟨Nat.zero_le _, Nat.zero_le _⟩ dX8_run_11 (fun H locs hP hD hS => ?_)
    refine lv_iconst (v := 0) hx hb dX8_run_14 (by decide) ?_
    refine lv_istore_n (lv' := [(1, .int 0), (0, .ref (a 0))]) hx hb dX8_run_15 rfl hl (by decide) rfl (fun ls hl => ?_)
    refine lv_iconst (v := 0) hx hb dX8_run_16 (by decide) ?_
    refine lv_istore_n (lv' := [(2, .int 0), (1, .int 0), (0, .ref (a 0))]) hx hb dX8_run_17 rfl hl (by decide) rfl (fun ls hl => ?_)
    refine jLoop (fun n H locs g => ∃ (i : Nat), ∃ (dn : Int32), ∃ (fc : Nat → Int32), ∃ ls, (i + n = nd) ∧ (jLg fc) ∧ (rnM (rnW0 Y) n i dn fc = rnE Y) ∧ g = F0 m 18 ls [] ∧ lv_has ls 3 [(2, .int (nI i)), (1, .int dn), (0, .ref (a 0))] ∧ va_P D vwCl ([modW y a (sv 1 (rnW0 Y) fc)]).flatten H ∧ va_D A ([modW y a (sv 1 (rnW0 Y) fc)]).flatten ∧ va_S A s.heap H locs) (nd) ?_ ⟨0, 0, (Y 1), _, (Nat.zero_add _), hlg, (by unfold rnE; rw [hnd, nI_clamp (by omega)]), rfl, lv_sub hl [0, 1, 2] rfl, (by rw [sv_selfx (show (rnW0 Y) 1 = Y 1 from rfl)]; exact hP), (by rw [sv_selfx (show (rnW0 Y) 1 = Y 1 from rfl)]; exact hD), hS⟩
    rintro n ih H locs _ ⟨i, dn, fc, ls, hin, hlc, hrn, rfl, hl, hP, hD, hS⟩
    rcases n with _ | n
    · have hl : lv_has ls 3 [(2, .int (nI i)), (1, .int dn), (0, .ref (a 0))] := hl
      have hP : va_P D vwCl ([modW y a (sv 1 (rnW0 Y) fc)]).flatten H := hP
      have hD : va_D A ([modW y a (sv 1 (rnW0 Y) fc)]).flatten := hD
      refine lv_iload_n hx hb dX8_run_18 rfl (lv_at hl 0 rfl) ?_
      refine lv_aload_n hx hb dX8_run_19 rfl (lv_at hl 2 rfl) ?_
      refine jget (ci := 8) (C := RX8) (T := TX8) (N := 12) (v := .int (((rnW0 Y) 0) 10)) hx hb hts hown hE hP hu8 rfl (kb := 0) rfl (q0 := 0) rfl 10 (by decide) (List.mem_of_getElem? (i := 1) rfl) rfl rfl dX8_run_20 ?_
      refine lv_icmp_ge (tgt := 48) hx hb dX8_run_23 (by decide) (fun c2 => ?_) (fun c2 => ?_)
      rotate_left
      · exact absurd (by rw [show rnW0 Y 0 10 = nI nd from hnd]; exact nI_le (by omega) (by omega)) c2
      refine lv_aload_n hx hb dX8_run_48 rfl (lv_at hl 2 rfl) ?_
      refine lv_iconst (v := 0) hx hb dX8_run_49 (by decide) ?_
      refine jput (ci := 8) (C := RX8) (T := TX8) (N := 12) (ty := .int) (bs' := [modW y a (sv 0 (sv 1 (rnW0 Y) fc) (upd ((rnW0 Y) 0) 8 0))]) hx hb hts hown hE hP hD hS hu8 tyX8 tyX8_ok nmX8 rfl (kb := 0) rfl (q0 := 0) rfl 8 (by decide) (List.mem_of_getElem? (i := 2) rfl) rfl rfl rfl rfl rfl (Nat.le_of_ble_eq_true rfl) ((show ∀ (Xg1 : Nat → Nat → Int32), List.set ([modW y a (sv 1 Xg1 fc)]) 0 (List.set (modW y a (sv 1 Xg1 fc)) 0 (a 0, .inr (8, List.set [.ref (a 1), .ref (a 2), .ref (a 3), .ref (a 4), .ref (a 5), .ref (a 6), .ref (a 7), .ref (a 8), .int ((sv 1 Xg1 fc) 0 8), .int ((sv 1 Xg1 fc) 0 9), .int ((sv 1 Xg1 fc) 0 10), .int ((sv 1 Xg1 fc) 0 11)] 8 (.int 0)))) = [modW y a (sv 0 (sv 1 Xg1 fc) (upd (Xg1 0) 8 0))] from fun _ => rfl) (rnW0 Y)) dX8_run_50 (fun H locs hP hD hS => ?_)
      refine lv_aload_n hx hb dX8_run_53 rfl (lv_at hl 2 rfl) ?_
      refine lv_iload_n hx hb dX8_run_54 rfl (lv_at hl 1 rfl) ?_
      refine jVi (n := 1) (is := [0]) (bs' := [modW y a (sv 4 (sv 0 (sv 0 (sv 1 (rnW0 Y) fc) (upd ((rnW0 Y) 0) 8 0)) (m_X8_recorded_Y_0 (sv 0 (sv 1 (rnW0 Y) fc) (upd ((rnW0 Y) 0) 8 0)) dn)) (m_X8_recorded_Y_4 (sv 0 (sv 1 (rnW0 Y) fc) (upd ((rnW0 Y) 0) 8 0)) dn))]) hx hb hml hown hts hE hZ hA hP hD hS (ct_X8_recorded l D y a (sv 0 (sv 1 (rnW0 Y) fc) (upd ((rnW0 Y) 0) 8 0)) dn (rnSt hst ((pk_un (by decide)).trans (fo9 Y 9 (by decide) (by decide))))) rfl rfl ((show ∀ (Xg1 : Nat → Nat → Int32) (fg2 : Nat → Int32) (fg3 : Nat → Int32) (fg4 : Nat → Int32), List.map (List.map Prod.fst) ([modW y a (sv 4 (sv 0 (sv 0 (sv 1 Xg1 fc) fg2) fg3) fg4)]) = List.map (List.map Prod.fst) ([modW y a (sv 0 (sv 1 Xg1 fc) fg2)]) from fun _ _ _ _ => rfl) (rnW0 Y) (upd ((rnW0 Y) 0) 8 0) (m_X8_recorded_Y_0 (sv 0 (sv 1 (rnW0 Y) fc) (upd ((rnW0 Y) 0) 8 0)) dn) (m_X8_recorded_Y_4 (sv 0 (sv 1 (rnW0 Y) fc) (upd ((rnW0 Y) 0) 8 0)) dn)) ((show ∀ (Xg1 : Nat → Nat → Int32) (fg2 : Nat → Int32) (fg3 : Nat → Int32) (fg4 : Nat → Int32), jPut ([modW y a (sv 0 (sv 1 Xg1 fc) fg2)]) [0] ([modW y a (sv 4 (sv 0 (sv 0 (sv 1 Xg1 fc) fg2) fg3) fg4)]) = [modW y a (sv 4 (sv 0 (sv 0 (sv 1 Xg1 fc) fg2) fg3) fg4)] from fun _ _ _ _ => rfl) (rnW0 Y) (upd ((rnW0 Y) 0) 8 0) (m_X8_recorded_Y_0 (sv 0 (sv 1 (rnW0 Y) fc) (upd ((rnW0 Y) 0) 8 0)) dn) (m_X8_recorded_Y_4 (sv 0 (sv 1 (rnW0 Y) fc) (upd ((rnW0 Y) 0) 8 0)) dn)) gX8_run_X8_recorded rfl (by decide +kernel) ⟨by decide, by decide⟩ ⟨rfl, rfl⟩ (kb := 0) rfl (q0 := 0) (ci := 8) rfl rfl rfl rfl hl.1 rfl (Nat.le_of_ble_eq_true rfl) ⟨Nat.zero_le _, Nat.zero_le _⟩ dX8_run_55 (fun H locs hP hD hS => ?_)
      exact jI_ret hx hb hr hlocks hP hS dX8_run_58 rfl (by rw [r_X8_run, if_pos c1, rnZ, show rnE Y = (dn, fc) from hrn.symm]) (by rw [m_X8_run, if_pos c1, rnZ, show rnE Y = (dn, fc) from hrn.symm])
    · have hl : lv_has ls 3 [(2, .int (nI i)), (1, .int dn), (0, .ref (a 0))] := hl
      have hP : va_P D vwCl ([modW y a (sv 1 (rnW0 Y) fc)]).flatten H := hP
      have hD : va_D A ([modW y a (sv 1 (rnW0 Y) fc)]).flatten := hD
      refine lv_iload_n hx hb dX8_run_18 rfl (lv_at hl 0 rfl) ?_
      refine lv_aload_n hx hb dX8_run_19 rfl (lv_at hl 2 rfl) ?_
      refine jget (ci := 8) (C := RX8) (T := TX8) (N := 12) (v := .int (((rnW0 Y) 0) 10)) hx hb hts hown hE hP hu8 rfl (kb := 0) rfl (q0 := 0) rfl 10 (by decide) (List.mem_of_getElem? (i := 1) rfl) rfl rfl dX8_run_20 ?_
      refine lv_icmp_ge (tgt := 48) hx hb dX8_run_23 (by decide) (fun c3 => ?_) (fun c3 => ?_)
      · exact absurd c3 (by rw [show rnW0 Y 0 10 = nI nd from hnd]; exact nI_ge (by omega) (by omega))
      refine lv_iload_n hx hb dX8_run_26 rfl (lv_at hl 1 rfl) ?_
      refine lv_aload_n hx hb dX8_run_27 rfl (lv_at hl 2 rfl) ?_
      refine lv_iload_n hx hb dX8_run_28 rfl (lv_at hl 0 rfl) ?_
      refine jVi (n := 1) (is := [0]) (bs' := [modW y a (sv 1 (sv 1 (rnW0 Y) fc) (m_X8_does_Y_1 (sv 1 (rnW0 Y) fc) i))]) hx hb hml hown hts hE hZ hA hP hD hS (ct_X8_does l D y a (sv 1 (rnW0 Y) fc) (nI i) i rfl (by omega) hlc) rfl rfl ((show ∀ (Xg1 : Nat → Nat → Int32) (fg2 : Nat → Int32), List.map (List.map Prod.fst) ([modW y a (sv 1 (sv 1 Xg1 fc) fg2)]) = List.map (List.map Prod.fst) ([modW y a (sv 1 Xg1 fc)]) from fun _ _ => rfl) (rnW0 Y) (m_X8_does_Y_1 (sv 1 (rnW0 Y) fc) i)) ((show ∀ (Xg1 : Nat → Nat → Int32) (fg2 : Nat → Int32), jPut ([modW y a (sv 1 Xg1 fc)]) [0] ([modW y a (sv 1 (sv 1 Xg1 fc) fg2)]) = [modW y a (sv 1 (sv 1 Xg1 fc) fg2)] from fun _ _ => rfl) (rnW0 Y) (m_X8_does_Y_1 (sv 1 (rnW0 Y) fc) i)) gX8_run_X8_does rfl (by decide +kernel) ⟨by decide, by decide⟩ ⟨rfl, rfl⟩ (kb := 0) rfl (q0 := 0) (ci := 8) rfl rfl rfl rfl hl.1 rfl (Nat.le_of_ble_eq_true rfl) ⟨Nat.zero_le _, Nat.zero_le _⟩ dX8_run_29 (fun H locs hP hD hS => ?_)
      refine jCut (fun H locs g => ∃ ls, g = F0 m 40 ls [.int (v_X8_run_1 Y i fc), .int dn] ∧ lv_has ls 3 [(2, .int (nI i)), (1, .int dn), (0, .ref (a 0))] ∧ va_P D vwCl ([modW y a (sv 1 (sv 1 (rnW0 Y) fc) (m_X8_does_Y_1 (sv 1 (rnW0 Y) fc) i))]).flatten H ∧ va_D A ([modW y a (sv 1 (sv 1 (rnW0 Y) fc) (m_X8_does_Y_1 (sv 1 (rnW0 Y) fc) i))]).flatten ∧ va_S A s.heap H locs) ?_ (fun J => ?_)
      rotate_left
      · refine lv_if_lt (tgt := 39) hx hb dX8_run_32 (by decide) (fun c4 => ?_) (fun c4 => ?_)
        · refine lv_iconst (v := 0) hx hb dX8_run_39 (by decide) ?_
          exact J _ _ _ ⟨_, (by simp only [v_X8_run_1, if_pos c4]), lv_sub hl [0, 1, 2] rfl, hP, hD, hS⟩
        · refine lv_iconst (v := 1) hx hb dX8_run_35 (by decide) ?_
          refine lv_goto (tgt := 40) hx hb dX8_run_36 (by decide) ?_
          exact J _ _ _ ⟨_, (by simp only [v_X8_run_1, if_neg c4]), lv_sub hl [0, 1, 2] rfl, hP, hD, hS⟩
      rintro H locs _ ⟨ls, rfl, hl, hP, hD, hS⟩
      refine lv_iadd hx hb dX8_run_40 ?_
      refine lv_istore_n (lv' := [(1, .int (dn + (v_X8_run_1 Y i fc))), (2, .int (nI i)), (0, .ref (a 0))]) hx hb dX8_run_41 rfl hl (by decide) rfl (fun ls hl => ?_)
      refine lv_iinc (v := (nI (i + 1))) (lv' := [(2, .int (nI (i + 1))), (1, .int (dn + (v_X8_run_1 Y i fc))), (0, .ref (a 0))]) hx hb dX8_run_42 hl (k := 1) rfl (nI_succ i).symm (by decide) rfl (fun ls hl => ?_)
      refine lv_goto (tgt := 18) hx hb dX8_run_45 (by decide) ?_
      exact ih n (Nat.lt_succ_self n) _ _ _ ⟨(i + 1), (dn + (v_X8_run_1 Y i fc)), (m_X8_does_Y_1 (sv 1 (rnW0 Y) fc) i), _, (by omega), (doLg hlc), hrn, rfl, lv_sub hl [0, 1, 2] rfl, (rnP hP), (rnD hD), hS⟩
  · refine lv_bipush (v := (-3)) hx hb dX8_run_7 (by decide) ?_
    exact jI_ret hx hb hr hlocks hP hS dX8_run_9 rfl (by rw [r_X8_run, if_neg c1]) (by rw [m_X8_run, if_neg c1] <;> rfl)
def r_X8_fault (Y : Nat → Nat → Int32) : Int32 := (if 0 ≤ (foR Y) then (foR Y) else (-6))
set_option maxHeartbeats 4000000 in
set_option maxRecDepth 100000 in
theorem ct_X8_fault (l : Launch) (D : va_G) (y : Nat → ClassId) (a : Nat → Nat) (Y : Nat → Nat → Int32) (hln : jLn (Y 0)) : jI l D y yX8_fault wsX8_fault ({ frames := 4, cells := 0, slots := 0, locals := 87 } : Room) [.ref (a 0)] ([modW y a Y]) (r_X8_fault Y) ([modW y a (sv 0 (sv 7 Y ((fo Y).2.1)) ((fo Y).2.2))]) := by
  refine jI_of (cc := cX8_fault) (maxL := 2) (ty := .int) (by decide) rfl (Nat.le_of_ble_eq_true rfl) ?_
  intro p e s m below meth c A ls hx hb hr hlocks hml hown hts hE hZ hA hP hD hS hl
  have hown : s.vm.findClass RX8 = some m.cls := hown
  have hl : lv_has ls 2 [(0, .ref (a 0))] := hl
  refine lv_aload_n hx hb dX8_fault_0 rfl (lv_at hl 0 rfl) ?_
  refine jVi (n := 0) (is := [0]) (bs' := [modW y a (sv 0 (sv 7 Y ((fo Y).2.1)) ((fo Y).2.2))]) hx hb hml hown hts hE hZ hA hP hD hS (ct_X8_faultOf l D y a Y hln) rfl rfl ((show ∀ (fg1 : Nat → Int32) (fg2 : Nat → Int32), List.map (List.map Prod.fst) ([modW y a (sv 0 (sv 7 Y fg1) fg2)]) = List.map (List.map Prod.fst) ([modW y a Y]) from fun _ _ => rfl) ((fo Y).2.1) ((fo Y).2.2)) ((show ∀ (fg1 : Nat → Int32) (fg2 : Nat → Int32), jPut ([modW y a Y]) [0] ([modW y a (sv 0 (sv 7 Y fg1) fg2)]) = [modW y a (sv 0 (sv 7 Y fg1) fg2)] from fun _ _ => rfl) ((fo Y).2.1) ((fo Y).2.2)) gX8_fault_X8_faultOf rfl (by decide +kernel) ⟨by decide, by decide⟩ ⟨rfl, rfl⟩ (kb := 0) rfl (q0 := 0) (ci := 8) rfl rfl rfl rfl hl.1 rfl (Nat.le_of_ble_eq_true rfl) ⟨Nat.zero_le _, Nat.zero_le _⟩ dX8_fault_1 (fun H locs hP hD hS => ?_)
  refine lv_istore_n (lv' := [(1, .int (foR Y)), (0, .ref (a 0))]) hx hb dX8_fault_4 rfl hl (by decide) rfl (fun ls hl => ?_)
  refine lv_iload_n hx hb dX8_fault_5 rfl (lv_at hl 0 rfl) ?_
  refine jCut (fun H locs g => ∃ ls, g = F0 m 15 ls [.int (if 0 ≤ (foR Y) then (foR Y) else (-6))] ∧ lv_has ls 2 [(1, .int (foR Y)), (0, .ref (a 0))] ∧ va_P D vwCl ([modW y a (sv 0 (sv 7 Y ((fo Y).2.1)) ((fo Y).2.2))]).flatten H ∧ va_D A ([modW y a (sv 0 (sv 7 Y ((fo Y).2.1)) ((fo Y).2.2))]).flatten ∧ va_S A s.heap H locs) ?_ (fun J => ?_)
  rotate_left
  · refine lv_if_ge (tgt := 14) hx hb dX8_fault_6 (by decide) (fun c1 => ?_) (fun c1 => ?_)
    · refine lv_iload_n hx hb dX8_fault_14 rfl (lv_at hl 0 rfl) ?_
      exact J _ _ _ ⟨_, (by simp only [if_pos c1]), lv_sub hl [0, 1] rfl, hP, hD, hS⟩
    · refine lv_bipush (v := (-6)) hx hb dX8_fault_9 (by decide) ?_
      refine lv_goto (tgt := 15) hx hb dX8_fault_11 (by decide) ?_
      exact J _ _ _ ⟨_, (by simp only [if_neg c1]), lv_sub hl [0, 1] rfl, hP, hD, hS⟩
  rintro H locs _ ⟨ls, rfl, hl, hP, hD, hS⟩
  exact jI_ret hx hb hr hlocks hP hS dX8_fault_15 rfl rfl rfl
