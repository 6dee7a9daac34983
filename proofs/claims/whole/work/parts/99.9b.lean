/-! ===== the law's start: what the tables give ===== -/
theorem arr_of {t : FieldType} {args : Array Value} {s : State} (h : (Cond.arrayClass t).before args s = true) : ∃ cA, ArrOfT s cA t ∧ s.vm.findClass ("[" ++ t.toString) = some cA := by
  obtain ⟨c, k, comp, h1, h2, h3⟩ := Cond.arrayClass_spec h
  exact ⟨c, fun n z => ⟨fun k h => (by cases h), k, h2, comp, h3⟩, h1⟩
theorem arr_obj {C : String} {args : Array Value} {s : State} (h : (Cond.arrayOver (.object C)).before args s = true) : ∃ cA, ArrOfT s cA (.object C) ∧ va_RA s cA (.object C) := by
  obtain ⟨comp, c, k, h1, -, h3, h4, h5⟩ := Cond.arrayOver_spec h
  exact ⟨c, fun n z => ⟨fun k h => (by cases h), k, h3, comp, h4⟩, k, comp, h3, h4, h1, h5⟩
theorem iw_J0 : ∀ w ∈ u_ws RJ0 TJ0 2, w ∈ lw_tbl := by decide +kernel
theorem iw_Jx : ∀ w ∈ u_ws RJx00060 TJx00060 6, w ∈ lw_tbl := by decide +kernel
theorem in_J0 : Cond.instantiable RJ0 4 ∈ lw_tbl := by decide +kernel
theorem in_Jx : Cond.instantiable RJx00060 6 ∈ lw_tbl := by decide +kernel
def strOk (w : Cond) : Bool := match w with
  | .stringRef own _ _ => own == RX7
  | _ => true
theorem strAll : lw_tbl.all strOk = true := by decide +kernel
theorem inv0 : Inv μ0 0 := by
  have z : ∀ {k b i s : Nat}, k ≠ 9 → k ≠ 36 → μ0 k b i s = nI 0 := fun h h2 => (μ0_z h h2).trans nI_0.symm
  have hn : ∀ {f : Nat → Int32} {b : Nat}, (∀ i, f i = nI 0) → AR μ0 b f 0 := fun {f b} hf => by
    refine ⟨0, 0, 0, ?_, ?_, ?_⟩
    · refine ⟨⟨⟨z (by decide) (by decide), by decide⟩, ⟨z (by decide) (by decide), by decide⟩, ⟨z (by decide) (by decide), by decide⟩⟩, ⟨?_, ?_⟩, fun l hl => absurd hl (by omega), fun l hl => absurd hl (by omega), fun l hl => absurd hl (by omega)⟩
      · rw [z (by decide) (by decide)]; exact ⟨0, by decide, by decide, rfl⟩
      · rw [z (by decide) (by decide)]; exact ⟨0, by decide, by decide, rfl⟩
    · refine ⟨⟨by decide, by decide, by decide⟩, ?_, fun l hl => absurd hl (by omega), fun l hl => absurd hl (by omega), fun l hl => absurd hl (by omega), fun l hl => absurd hl (by omega)⟩
      unfold zRel
      simp only [z (show (2 : Nat) ≠ 9 by decide) (show (2 : Nat) ≠ 36 by decide), hf]
      simp
    · rw [z (by decide) (by decide)]; exact ⟨0, by decide, by decide, rfl⟩
  refine ⟨hn (fun i => z (by decide) (by decide)), Or.inl ⟨rfl, rfl⟩, ⟨0, 0, ⟨by decide, by decide⟩, rfl, rfl, rfl, fun k hk => absurd hk (by omega)⟩, rfl, Or.inl ⟨rfl, rfl⟩, fun _ => 0, 0, ⟨rfl, by decide, fun j hj => absurd hj (by omega), fun j hj => absurd hj (by omega)⟩, ⟨rfl, by decide, fun j hj => absurd hj (by omega), fun j hj => absurd hj (by omega)⟩⟩
/-- YOUR PART: from the entry, for every script of at most 3584 ints, the law comes to its end with true -/
theorem whole_start {p : Program} {e : Env} {s : State} {m : MethodId} {below : List Frame} {meth : Method} {c : Code} (l : Launch) (hflags : l.flags = flags0) {b L : Nat} {xs : Nat → Int32} (hL : L ≤ 3584) (C0 : lw_At p s m meth c b L xs) : W p l e room_1 s m #[Value.ref b] below meth c s.heap [] 0 0 (lw_Z below #[Value.ref b] s) (entryFrame m ([Value.ref b] : List Value).toArray 9) := by
  obtain ⟨hx, hb, hr, hml, hown, hts, hX, hbl, hlocks, hgv⟩ := id C0
  have hs := flat_of_before _ hgv
  have hst : l.stackTraces = false := by unfold Launch.stackTraces; rw [hflags]; decide +kernel
  -- array classes
  have hAr : ∀ k : Nat, ∃ cA, 20 ≤ k → k < 37 → ArrOfT s cA (zty k) ∧ va_RA s cA (zty k) := by
    intro k
    by_cases hk : 20 ≤ k ∧ k < 37
    · obtain ⟨h1, h2⟩ := hk
      have : ∃ cA, ArrOfT s cA (zty k) ∧ va_RA s cA (zty k) := by
        rcases (show k = 20 ∨ k = 21 ∨ k = 22 ∨ k = 23 ∨ k = 24 ∨ k = 25 ∨ k = 26 ∨ k = 27 ∨ k = 28 ∨ k = 29 ∨ k = 30 ∨ k = 31 ∨ k = 32 ∨ k = 33 ∨ k = 34 ∨ k = 35 ∨ k = 36 by omega) with rfl | rfl | rfl | rfl | rfl | rfl | rfl | rfl | rfl | rfl | rfl | rfl | rfl | rfl | rfl | rfl | rfl
        · exact arr_obj (hts _ ao_X4)
        · exact arr_obj (hts _ ao_X5)
        · exact arr_obj (hts _ ao_X1)
        · exact arr_obj (hts _ ao_X0)
        · exact arr_of (hts _ (GW_tbl ar_char))
        · exact arr_of (hts _ (GW_tbl ar_int))
        · exact arr_of (hts _ (GW_tbl ar_int))
        · exact arr_of (hts _ (GW_tbl ar_int))
        · exact arr_of (hts _ (GW_tbl ar_int))
        · exact arr_of (hts _ (GW_tbl ar_int))
        · exact arr_of (hts _ (GW_tbl ar_int))
        · exact arr_of (hts _ (GW_tbl ar_int))
        · exact arr_of (hts _ (GW_tbl ar_int))
        · exact arr_of (hts _ (GW_tbl ar_int))
        · exact arr_of (hts _ (GW_tbl ar_int))
        · exact arr_of (hts _ (GW_tbl ar_long))
        · exact arr_of (hts _ (GW_tbl ar_double))
      obtain ⟨cA, h3⟩ := this
      exact ⟨cA, fun _ _ => h3⟩
    · exact ⟨0, fun h1 h2 => absurd ⟨h1, h2⟩ hk⟩
  obtain ⟨fA, hfA⟩ : ∃ f : Nat → ClassId, ∀ k, 20 ≤ k → k < 37 → ArrOfT s (f k) (zty k) ∧ va_RA s (f k) (zty k) := ⟨fun k => Classical.choose (hAr k), fun k => Classical.choose_spec (hAr k)⟩
  -- classes
  have hCl : ∀ k : Nat, ∃ q : ClassId × (Nat → Nat), ∀ r : vw_C, vwCl[k]? = some r → u_Kn s r.1 r.2.1 r.2.2 q.1 q.2 := by
    intro k
    have mk : ∀ {C : String} {T : u_T} {N n : Nat}, vwCl[k]? = some (C, T, N) → (∀ w ∈ u_ws C T N, w ∈ lw_tbl) → Cond.instantiable C n ∈ lw_tbl → ∃ q : ClassId × (Nat → Nat), ∀ r : vw_C, vwCl[k]? = some r → u_Kn s r.1 r.2.1 r.2.2 q.1 q.2 := fun {C T N n} h1 h2 h3 => by
      obtain ⟨c0, i0, h4⟩ := u_known (C := C) (T := T) (N := N) (n := n) hts h2 (hts _ h3)
      refine ⟨(c0, i0), fun r hr => ?_⟩
      have e := Option.some.inj (h1.symm.trans hr)
      subst e
      exact h4
    match k with
    | 0 => exact mk rfl iw_J0 in_J0
    | 1 => exact mk rfl iw_Jx in_Jx
    | 2 => exact mk rfl (fun w hw => GW_tbl (iw_X0 w hw)) (GW_tbl in_X0)
    | 3 => exact mk rfl (fun w hw => GW_tbl (iw_X1 w hw)) (GW_tbl in_X1)
    | 4 => exact mk rfl (fun w hw => GW_tbl (iw_X2 w hw)) (GW_tbl in_X2)
    | 5 => exact mk rfl (fun w hw => GW_tbl (iw_X3 w hw)) (GW_tbl in_X3)
    | 6 => exact mk rfl (fun w hw => GW_tbl (iw_X4 w hw)) (GW_tbl in_X4)
    | 7 => exact mk rfl (fun w hw => GW_tbl (iw_X5 w hw)) (GW_tbl in_X5)
    | 8 => exact mk rfl (fun w hw => GW_tbl (iw_X6 w hw)) (GW_tbl in_X6)
    | 9 => exact mk rfl (fun w hw => GW_tbl (iw_X7 w hw)) (GW_tbl in_X7)
    | 10 => exact mk rfl (fun w hw => GW_tbl (iw_X8 w hw)) (GW_tbl in_X8)
    | k + 11 => exact ⟨(0, fun _ => 0), fun r hr => by simp at hr⟩
  obtain ⟨fC, hfC⟩ : ∃ f : Nat → ClassId × (Nat → Nat), ∀ (k : Nat) (r : vw_C), vwCl[k]? = some r → u_Kn s r.1 r.2.1 r.2.2 (f k).1 (f k).2 := ⟨fun k => Classical.choose (hCl k), fun k => Classical.choose_spec (hCl k)⟩
  obtain ⟨G, hG⟩ : ∃ G : Gl, G = (s.heap.size, (fun k => (fC k).1, fun k => (fC k).2), fA, true) := ⟨_, rfl⟩
  have hG1 : s.heap.size = G.1 := by rw [hG]
  have hA : G.2.2.2 = true := by rw [hG]
  have hX7 : ∃ cur, s.vm.findClass RX7 = some cur := by
    have h := hfC 9 (RX7, TX7, 9) rfl
    exact ⟨_, h.2.1⟩
  have hnm : ∀ q ∈ zNc, va_Nc q.1 q.2 s := by
    refine List.forall_mem_cons.mpr ⟨va_Nc.of (args := #[Value.ref b]) (hs _ (by decide +kernel)), List.forall_mem_cons.mpr ⟨va_Nc.of (args := #[Value.ref b]) (hs _ (by decide +kernel)), List.forall_mem_cons.mpr ⟨va_Nc.of (args := #[Value.ref b]) (hs _ (by decide +kernel)), List.forall_mem_cons.mpr ⟨va_Nc.of (args := #[Value.ref b]) (hs _ (by decide +kernel)), List.forall_mem_cons.mpr ⟨va_Nc.of (args := #[Value.ref b]) (hs _ (by decide +kernel)), List.forall_mem_cons.mpr ⟨va_Nc.of (args := #[Value.ref b]) (hs _ (by decide +kernel)), fun _ h => absurd h List.not_mem_nil⟩⟩⟩⟩⟩⟩
  have hks : kst G s := by
    refine ⟨⟨fun k r hk => ?_, fun k q h => by simp at h⟩, fun k h1 h2 => ?_, Nat.le_of_eq hG1.symm, ?_, ?_, fun own k tx hm => ?_, fun w hw hn => ?_, hnm⟩
    · rw [hG]; exact hfC k r hk
    · rw [hG]; exact (hfA k h1 h2).1
    · exact vx_Zqof (args := #[Value.ref b]) (hts (.laysStatic Bundle.tN "UNASSIGNED_STACK" Bundle.steD) (by decide +kernel)) (hts (.initialized Bundle.tN) (by decide +kernel)) (hs (.isRef (.static Bundle.tN "UNASSIGNED_STACK" Bundle.steD)) (by decide +kernel)) (fun a ha z => by omega)
    · exact vx_Zqof (args := #[Value.ref b]) (hts (.laysStatic Bundle.tN "SUPPRESSED_SENTINEL" Bundle.listD) (by decide +kernel)) (hts (.initialized Bundle.tN) (by decide +kernel)) (hs (.isRef (.static Bundle.tN "SUPPRESSED_SENTINEL" Bundle.listD)) (by decide +kernel)) (fun a ha z => by omega)
    · have h1 : strOk (.stringRef own k tx) = true := List.all_eq_true.mp strAll _ hm
      have h2 : own = RX7 := by simpa [strOk] using h1
      obtain ⟨cur, hcur⟩ := hX7
      rw [← h2] at hcur
      obtain ⟨k9, cf, i, a, -, -, -, -, -, h9⟩ := Cond.stringRef_spec hcur (hts _ hm)
      exact ⟨a, vk_R.of (hts _ hm) h9⟩
    · have h1 := hts w hw
      cases w <;> first | exact va_Nw.of rfl h1 | cases hn
  have hkar : kar G s := by
    refine ⟨fun k h1 h2 => ?_, fun k h1 h2 => ?_⟩
    · rw [hG]; exact (hfA k h1 h2).2
    · rcases (show k = 20 ∨ k = 21 ∨ k = 22 ∨ k = 23 by omega) with rfl | rfl | rfl | rfl
      · exact va_AO.of (hts _ ao_X4)
      · exact va_AO.of (hts _ ao_X5)
      · exact va_AO.of (hts _ ao_X1)
      · exact va_AO.of (hts _ ao_X0)
  obtain ⟨hh, hhe⟩ : ∃ hh : List (Nat × Nat × Nat × Nat), c.exceptionTable.toList = tableOf hh := by
    refine ⟨c.exceptionTable.toList.map (fun x => (x.startPc, x.endPc, x.handlerPc, x.catchType)), ?_⟩
    unfold tableOf
    rw [List.map_map]
    exact ((List.map_congr_left (fun x _ => rfl)).trans (List.map_id _)).symm
  have CX : CxC G (mLaw hh) p l s m #[Value.ref b] meth c := ⟨hx, hb, hr, hml, hown, hlocks, fun w hw => hts w (GW_tbl hw), hks, hst, hkar, fun z => absurd z (show "law" ≠ "<init>" by decide), fun _ => hhe⟩
  have W0 := l_start (G := G) (hh := hh) (b := b) (L := L) (xs := xs) hA (l_loop hA hL 513 0 μ0 415 8385 (by decide) (by decide) inv0 (by decide) (by decide))
  have hl := lv_entry ([.ref b]) (n := 9) (Nat.le_of_ble_eq_true rfl)
  rw [lg_entry_eq]
  have k := W0 p l e s m #[Value.ref b] below meth c CX s.heap [] _ ⟨hG1, fun q hq => absurd hq (Nat.not_lt_zero q)⟩ va_S.rf hl
  intro T hT X
  obtain ⟨t, a1, b1⟩ := k T hT X
  exact ⟨t, a1, b1 ⟨hX, hbl, hG1, rfl⟩⟩
