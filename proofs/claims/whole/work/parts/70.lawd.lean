/-! the start of the law -/
theorem lw_env {s : State} {args : Array Value} (hts0 : ∀ w ∈ lw_tbl, w.before args s = true) : ∃ (D : va_G) (y : Nat → ClassId), jE D y s := by
  obtain ⟨c0, f0, k0⟩ := u_known (C := RX0) (T := TX0) (N := 5) (n := 5) hts0 inX0 (hts0 _ (List.mem_of_getElem? (i := 145) (by decide +kernel)))
  obtain ⟨c1, f1, k1⟩ := u_known (C := RX1) (T := TX1) (N := 9) (n := 9) hts0 inX1 (hts0 _ (List.mem_of_getElem? (i := 86) (by decide +kernel)))
  obtain ⟨c2, f2, k2⟩ := u_known (C := RX2) (T := TX2) (N := 3) (n := 3) hts0 inX2 (hts0 _ (List.mem_of_getElem? (i := 238) (by decide +kernel)))
  obtain ⟨c3, f3, k3⟩ := u_known (C := RX3) (T := TX3) (N := 2) (n := 2) hts0 inX3 (hts0 _ (List.mem_of_getElem? (i := 173) (by decide +kernel)))
  obtain ⟨c4, f4, k4⟩ := u_known (C := RX4) (T := TX4) (N := 2) (n := 2) hts0 inX4 (hts0 _ (List.mem_of_getElem? (i := 258) (by decide +kernel)))
  obtain ⟨c5, f5, k5⟩ := u_known (C := RX5) (T := TX5) (N := 5) (n := 5) hts0 inX5 (hts0 _ (List.mem_of_getElem? (i := 80) (by decide +kernel)))
  obtain ⟨c6, f6, k6⟩ := u_known (C := RX6) (T := TX6) (N := 6) (n := 6) hts0 inX6 (hts0 _ (List.mem_of_getElem? (i := 186) (by decide +kernel)))
  obtain ⟨c7, f7, k7⟩ := u_known (C := RX7) (T := TX7) (N := 6) (n := 6) hts0 inX7 (hts0 _ (List.mem_of_getElem? (i := 72) (by decide +kernel)))
  obtain ⟨c8, f8, k8⟩ := u_known (C := RX8) (T := TX8) (N := 12) (n := 12) hts0 inX8 (hts0 _ (List.mem_of_getElem? (i := 572) (by decide +kernel)))
  obtain ⟨a0, ka0, ca0, ea0, ga0, qa0⟩ := Cond.arrayClass_spec (show (Cond.arrayClass .int).before args s = true from hts0 _ (List.mem_of_getElem? (i := 143) (by decide +kernel)))
  obtain ⟨a1, ka1, ca1, ea1, ga1, qa1⟩ := Cond.arrayClass_spec (show (Cond.arrayClass .boolean).before args s = true from hts0 _ (List.mem_of_getElem? (i := 271) (by decide +kernel)))
  obtain ⟨a2, ka2, ca2, ea2, ga2, qa2⟩ := Cond.arrayClass_spec (show (Cond.arrayClass .char).before args s = true from hts0 _ (List.mem_of_getElem? (i := 272) (by decide +kernel)))
  obtain ⟨comp, a3, ka3, ea3, -, ga3, qa3, na3⟩ := Cond.arrayOver_spec (show (Cond.arrayOver (.object "JetStarts$State")).before args s = true from hts0 _ (List.mem_of_getElem? (i := 244) (by decide +kernel)))
  refine ⟨(fun k => match k with
    | 0 => c0 | 1 => c1 | 2 => c2 | 3 => c3 | 4 => c4 | 5 => c5 | 6 => c6 | 7 => c7 | _ => c8, fun k => match k with
    | 0 => f0 | 1 => f1 | 2 => f2 | 3 => f3 | 4 => f4 | 5 => f5 | 6 => f6 | 7 => f7 | _ => f8), (fun k => match k with
    | 0 => a0 | 1 => a1 | 2 => a2 | _ => a3), ⟨?_, ?_⟩, ?_⟩
  · intro k q hq
    match k, hq with
    | 0, hq => cases hq; exact k0
    | 1, hq => cases hq; exact k1
    | 2, hq => cases hq; exact k2
    | 3, hq => cases hq; exact k3
    | 4, hq => cases hq; exact k4
    | 5, hq => cases hq; exact k5
    | 6, hq => cases hq; exact k6
    | 7, hq => cases hq; exact k7
    | 8, hq => cases hq; exact k8
    | k + 9, hq => simp [vwCl] at hq
  · intro k q hq
    match k, hq with
    | 0, hq => cases hq; exact ⟨fun n z => ⟨fun k h => (by cases h), ka0, ga0, ca0, qa0⟩, ea0⟩
    | 1, hq => cases hq; exact ⟨fun n z => ⟨fun k h => (by cases h), ka1, ga1, ca1, qa1⟩, ea1⟩
    | 2, hq => cases hq; exact ⟨fun n z => ⟨fun k h => (by cases h), ka2, ga2, ca2, qa2⟩, ea2⟩
    | 3, hq => cases hq; exact ⟨fun n z => ⟨fun k h => (by cases h), ka3, ga3, comp, qa3⟩, ⟨ka3, comp, ga3, qa3, ea3, na3⟩⟩
    | k + 4, hq => simp [jtys] at hq
  · intro w hw
    have h1 := List.all_eq_true.mp jNests_ok w hw
    have h2 := hts0 w (jlaw_nests w hw)
    cases w <;> first | exact va_Nw.of rfl h2 | cases h1
theorem lw_z1 {args : Array Value} {s : State} {nm : String} {f : Nat → Int32} (hl : (Cond.laysStatic "JetStarts" nm "[I").before args s = true) (hini : (Cond.initialized "JetStarts").before args s = true) (harr : (Cond.arrayOf (.static "JetStarts" nm "[I") .int).before args s = true) (hlen : (Cond.eq (.length (.static "JetStarts" nm "[I")) (.int 7)).before args s = true) (hel : ∀ j : Nat, j < 7 → (Cond.eq (.elem (.static "JetStarts" nm "[I") (.int (Int32.ofNat j))) (.int (f j))).before args s = true) : jZ1 nm f (fun q : Nat => s.heap.size ≤ q) s s.heap := by
  have hA : ∀ a : Nat, a < s.heap.size → ¬ (fun q : Nat => s.heap.size ≤ q) a := fun a h => Nat.not_le.mpr h
  obtain ⟨t, h1, h2⟩ := va_Tof (N := 7) (f := fun j => .int (f j)) (by decide) harr (va_eqt hlen) (fun j hj => va_eqt (hel j hj)) hA
  exact ⟨t, va_Zof hl hini h1 hA, h2⟩
theorem lw_z {args : Array Value} {s : State} (hts0 : ∀ w ∈ lw_tbl, w.before args s = true) (hgv : (Jvm.Cond.and given_1 narrow_1).before args s = true) : jZ (fun q : Nat => s.heap.size ≤ q) s s.heap := by
  have hs := flat_of_before _ hgv
  exact ⟨lw_z1 (hts0 _ (List.mem_of_getElem? (i := 92) (by decide +kernel))) (hts0 _ (List.mem_of_getElem? (i := 60) (by decide +kernel))) (hs _ (by decide +kernel)) (hs _ (by decide +kernel)) (fun j hj => by rcases (show j = 0 ∨ j = 1 ∨ j = 2 ∨ j = 3 ∨ j = 4 ∨ j = 5 ∨ j = 6 by omega) with rfl | rfl | rfl | rfl | rfl | rfl | rfl <;> exact hs _ (by decide +kernel)),
    lw_z1 (hts0 _ (List.mem_of_getElem? (i := 297) (by decide +kernel))) (hts0 _ (List.mem_of_getElem? (i := 60) (by decide +kernel))) (hs _ (by decide +kernel)) (hs _ (by decide +kernel)) (fun j hj => by rcases (show j = 0 ∨ j = 1 ∨ j = 2 ∨ j = 3 ∨ j = 4 ∨ j = 5 ∨ j = 6 by omega) with rfl | rfl | rfl | rfl | rfl | rfl | rfl <;> exact hs _ (by decide +kernel)),
    lw_z1 (hts0 _ (List.mem_of_getElem? (i := 299) (by decide +kernel))) (hts0 _ (List.mem_of_getElem? (i := 60) (by decide +kernel))) (hs _ (by decide +kernel)) (hs _ (by decide +kernel)) (fun j hj => by rcases (show j = 0 ∨ j = 1 ∨ j = 2 ∨ j = 3 ∨ j = 4 ∨ j = 5 ∨ j = 6 by omega) with rfl | rfl | rfl | rfl | rfl | rfl | rfl <;> exact hs _ (by decide +kernel))⟩
/-- a call of a class's public constructor on the last block -/
theorem jPc {S : Type} {p : Program} {l : Launch} {e : Env} {R : Room} {s : State} {m : MethodId} {args : Array Value} {below : List Frame} {meth : Method} {c : Code} {H : Heap} {locs : List Loc} {cells slots : Nat} {Q : State → Prop} {cc : ByteArray} {pc : Nat} {ls : Array Slot} {rest : List Value} {A : Nat → Prop} {D : va_G} {y : Nat → ClassId} {Ts : List Cond} {own : String} {G : S → Prop} {F : S → List va_W} {nm : MethodName} {bytes : ByteArray} {maxL nL index b mc ms : Nat} {wsC : List Cond} {rmC : Room} {bs0 cs : List va_W} (hx : p.tables.exec = Jvm.exec) (hb : c.code = cc) (hml : c.maxLocals = nL) (hown : s.vm.findClass own = some m.cls) (hts : ∀ w ∈ Ts, w.before args s = true) (hE : jE D y s) (hZ : jZ A s s.heap) (hAO : jAO s) (hA : ∀ q : Nat, s.heap.size ≤ q → A q) (hP : va_P D vwCl (bs0 ++ cs).flatten H) (hD : va_D A (bs0 ++ cs).flatten) (hS : va_S A s.heap H locs) (ct : jC l D y nm wsC rmC [.ref b] cs G F mc ms) (cw : CallB R s args own index nm bytes maxL none wsC rmC mc ms 0 ∧ nm.name = "<init>" ∧ (Cond.instanceMethod nm).before args s = true) (hsz : ls.size = nL) (hrm : (rest.map fun v => v.category).sum ≤ 8) (h1 : cells + mc ≤ R.cells) (h2 : slots + ms ≤ R.slots) (hdg : decode cc pc = .ok (.invokespecial index, 3))
    (kk : ∀ (u : S) (H1 : Heap) (locs1 : List Loc), G u → va_P D vwCl (bs0 ++ F u).flatten H1 → va_D A (bs0 ++ F u).flatten → va_S A s.heap H1 locs1 → W p l e R s m args below meth c H1 locs1 (cells + mc) (slots + ms) Q (F0 m (pc + 3) ls rest)) : W p l e R s m args below meth c H locs cells slots Q (F0 m pc ls (.ref b :: rest)) := by
  have hF := jFreeL hD hS hA
  have hh := jPre.here (As := [.ref b]) hE hZ hS hF (jSubLP hP) (jSubL hD)
  refine va_callv (va_runI (As := []) (rest := rest) ⟨hx, hb, hml, hown, hts⟩ (ct H.size) cw ⟨jPreC.blind, fun U hU hW => ⟨hh U hU hW, va_AO.moved hW.alike hAO⟩⟩ rfl rfl hsz rfl (lv_room hrm) hdg ⟨h1, h2⟩) hS (fun q _ h => hF q h) hF (fun u t H1 locs1 ht hvm hw hB hz1 hk1 hS1 => ?_)
  obtain ⟨g1, g2⟩ := hB
  rw [ht] at g1
  obtain ⟨k1, k2⟩ := jGrow hP hD hk1 hF g1 g2
  exact kk u H1 locs1 hw k1 k2 hS1
set_option maxHeartbeats 4000000 in
set_option maxRecDepth 20000 in
/-- from the entry, for every script of at most 1536 ints, the law comes to its end with true -/
theorem whole_start {p : Program} {e : Env} {s : State} {m : MethodId} {below : List Frame} {meth : Method} {c : Code} (l : Launch) (hflags : l.flags = flags0) {b L : Nat} {xs : Nat → Int32} (hL : L ≤ 1536) (C0 : lw_At p s m meth c b L xs) : W p l e room_1 s m #[Value.ref b] below meth c s.heap [] 0 0 (lw_Z below #[Value.ref b] s) (entryFrame m ([Value.ref b] : List Value).toArray 4) := by
  obtain ⟨hx, hb, hr, hml, hown, hts0, hX, hbl, hlocks, hgv⟩ := C0
  have hb : c.code = cL_law := hb
  have hown : s.vm.findClass RL = some m.cls := hown
  have hts : ∀ w ∈ wsL_law, w.before #[Value.ref b] s = true := fun w h => hts0 w (wsL_law_in w h)
  obtain ⟨D, y, hE⟩ := lw_env hts0
  have hZ := lw_z hts0 hgv
  have hAO : jAO s := va_AO.of (hts0 _ (List.mem_of_getElem? (i := 244) (by decide +kernel)))
  obtain ⟨A, hAe⟩ : ∃ A : Nat → Prop, A = fun q : Nat => s.heap.size ≤ q := ⟨_, rfl⟩
  rw [← hAe] at hZ
  have hA : ∀ q : Nat, s.heap.size ≤ q → A q := fun q h => by rw [hAe]; exact h
  have hA2 : ∀ q : Nat, A q → s.heap.size ≤ q := fun q h => by rw [hAe] at h; exact h
  have hbA : ¬ A b := fun h => absurd (hA2 b h) (Nat.not_le.mpr hbl)
  have hcl : Cond.constantLong RL 77 4294967295 ∈ wsL_law := List.mem_of_getElem? (i := 6) rfl
  have hLH : LH p s m c b L xs D y A := ⟨hx, hb, hml, hown, hts, hE, hZ, hA, hX, hbl, hbA, hL, hcl⟩
  have hP : va_P D vwCl ([] : List va_W).flatten s.heap := fun k q h => by simp at h
  have hD : va_D A ([] : List va_W).flatten := ⟨fun i j p q h => by simp at h, fun k q h => by simp at h⟩
  have hS : va_S A s.heap s.heap [] := va_S.rf
  have hl := lv_entry ([.ref b]) (n := 4) (Nat.le_of_ble_eq_true rfl)
  rw [lg_entry_eq]
  generalize (lg_sl ([.ref b]) ++ List.replicate (4 - (lg_sl ([.ref b])).length) Slot.unset).toArray = ls at hl ⊢
  have hl : lv_has ls 4 [(0, .ref b)] := hl
  refine jnew (ci := 7) (C := RX7) (T := TX7) (N := 6) (fs := [.null, .null, .null, .null, .null, .null]) hx hb hts0 hown hE hP hD hS hA inX7 tyX7 tyX7_ok rfl (List.mem_of_getElem? (i := 71) (by decide +kernel)) (List.mem_of_getElem? (i := 72) (by decide +kernel)) (List.mem_of_getElem? (i := 60) (by decide +kernel)) (fun j hj => by rcases (show j = 0 ∨ j = 1 ∨ j = 2 ∨ j = 3 ∨ j = 4 ∨ j = 5 by omega) with rfl | rfl | rfl | rfl | rfl | rfl <;> rfl) (Nat.le_of_ble_eq_true rfl) (Nat.le_of_ble_eq_true rfl) dL_law_0 (fun q0 H hP hD hS => ?_)
  refine lv_dup hx hb dL_law_3 rfl ?_
  refine jPc (bs0 := []) (cs := [[(q0, .inr (7, [.null, .null, .null, .null, .null, .null]))]]) hx hb hml hown hts hE hZ hAO hA hP hD hS (ct_X7_init l D y q0) (cwI 0 hts gL_law_X7_init rfl rfl rfl (hts0 _ (List.mem_of_getElem? (i := 60) (by decide +kernel))) (hts0 _ (List.mem_of_getElem? (i := 73) (by decide +kernel))) (hts0 _ (List.mem_of_getElem? (i := 74) (by decide +kernel))) rfl (by decide +kernel) ⟨by decide, by decide⟩) hl.1 (Nat.le_of_ble_eq_true rfl) (Nat.le_of_ble_eq_true rfl) (Nat.le_of_ble_eq_true rfl) dL_law_4 (fun u H locs hG hPn hDn hS => ?_)
  subst hG
  have hP : va_P D vwCl ([jetW y u.1 u.2 iT (fun _ => iX)] : List va_W).flatten H := jPone1 (bs0 := []) hPn
  have hD : va_D A ([jetW y u.1 u.2 iT (fun _ => iX)] : List va_W).flatten := jDone1 (bs0 := []) hDn
  refine lv_astore_n (lv' := [(1, .ref (u.1 0)), (0, .ref b)]) hx hb dL_law_7 rfl hl (by decide) rfl (fun ls hl => ?_)
  refine jnew (ci := 8) (C := RX8) (T := TX8) (N := 12) (fs := [.null, .null, .null, .null, .null, .null, .null, .null, .int 0, .int 0, .int 0, .int 0]) hx hb hts0 hown hE hP hD hS hA inX8 tyX8 tyX8_ok rfl (List.mem_of_getElem? (i := 571) (by decide +kernel)) (List.mem_of_getElem? (i := 572) (by decide +kernel)) (List.mem_of_getElem? (i := 69) (by decide +kernel)) (fun j hj => by rcases (show j = 0 ∨ j = 1 ∨ j = 2 ∨ j = 3 ∨ j = 4 ∨ j = 5 ∨ j = 6 ∨ j = 7 ∨ j = 8 ∨ j = 9 ∨ j = 10 ∨ j = 11 by omega) with rfl | rfl | rfl | rfl | rfl | rfl | rfl | rfl | rfl | rfl | rfl | rfl <;> rfl) (Nat.le_of_ble_eq_true rfl) (Nat.le_of_ble_eq_true rfl) dL_law_8 (fun q1 H hP hD hS => ?_)
  refine lv_dup hx hb dL_law_11 rfl ?_
  refine jPc (bs0 := [jetW y u.1 u.2 iT (fun _ => iX)]) (cs := [[(q1, .inr (8, [.null, .null, .null, .null, .null, .null, .null, .null, .int 0, .int 0, .int 0, .int 0]))]]) hx hb hml hown hts hE hZ hAO hA hP hD hS (ct_X8_init l D y q1) (cwI 0 hts gL_law_X8_init rfl rfl rfl (hts0 _ (List.mem_of_getElem? (i := 69) (by decide +kernel))) (hts0 _ (List.mem_of_getElem? (i := 573) (by decide +kernel))) (hts0 _ (List.mem_of_getElem? (i := 574) (by decide +kernel))) rfl (by decide +kernel) ⟨by decide, by decide⟩) hl.1 (Nat.le_of_ble_eq_true rfl) (Nat.le_of_ble_eq_true rfl) (Nat.le_of_ble_eq_true rfl) dL_law_12 (fun a' H locs hG hPn hDn hS => ?_)
  subst hG
  have hP : va_P D vwCl ([jetW y u.1 u.2 iT (fun _ => iX), modW y a' iY] : List va_W).flatten H := hPn
  have hD : va_D A ([jetW y u.1 u.2 iT (fun _ => iX), modW y a' iY] : List va_W).flatten := hDn
  refine lv_astore_n (lv' := [(2, .ref (a' 0)), (1, .ref (u.1 0)), (0, .ref b)]) hx hb dL_law_15 rfl hl (by decide) rfl (fun ls hl => ?_)
  refine lv_iconst (v := nI 0) hx hb dL_law_16 (by decide) ?_
  refine lv_istore_n (lv' := [(3, .int (nI 0)), (2, .ref (a' 0)), (1, .ref (u.1 0)), (0, .ref b)]) hx hb dL_law_17 rfl hl (by decide) rfl (fun ls hl => ?_)
  refine lw_loop (a := u.1) (bb := u.2) (a' := a') hLH ⟨by decide, by decide⟩ (fun H locs ls hS => ?_) (L + 1) 0 (by omega) (by omega) 0 0 iT (fun _ => iX) iY H locs ls JR_0 hP hD hS hl
  refine lv_iconst (v := 1) hx hb dL_law_633 (by decide) ?_
  refine va_forget (fun q hq => hA2 _ (hS.2.2 q hq)) ?_
  refine W.widen (k := 600000) (n := 7302250) (by decide) (by decide) ?_
  exact lw_ret hx hb hr hlocks dL_law_634
