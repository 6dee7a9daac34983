/-! ===== the reference reads a text ===== -/
/-- the text in the reference's input -/
def Tm (μ : St) (t : Nat → Int32) (n : Nat) : Prop := μ 10 0 0 10 = nI n ∧ n ≤ 60 ∧ (∀ j, j < n → μ 31 0 0 j = t j) ∧ ∀ j, j < n → isN (t j) 32 126
/-- where the reference reads -/
def Ms (μ : St) (s : Bool × Nat) : Prop := μ 10 0 0 12 = nI s.2 ∧ μ 10 0 0 13 = bI s.1
def Mk (μ μ' : St) : Prop := ∀ k b i s, ¬ (k = 10 ∧ (s = 12 ∨ s = 13)) → μ' k b i s = μ k b i s
theorem Mk.trans {μ μ' μ'' : St} (h : Mk μ μ') (h' : Mk μ' μ'') : Mk μ μ'' := fun k b i s hk => by rw [h' k b i s hk, h k b i s hk]
theorem Tm.mk {μ μ' : St} {t : Nat → Int32} {n : Nat} (h : Tm μ t n) (hk : Mk μ μ') : Tm μ' t n := ⟨by rw [hk _ _ _ _ (by omega)]; exact h.1, h.2.1, fun j hj => by rw [hk _ _ _ _ (by omega)]; exact h.2.2.1 j hj, h.2.2.2⟩
theorem Tm.of {μ μ' : St} {t : Nat → Int32} {n : Nat} (h : Tm μ t n) (h1 : μ' 10 0 0 10 = μ 10 0 0 10) (h2 : ∀ j, μ' 31 0 0 j = μ 31 0 0 j) : Tm μ' t n := ⟨by rw [h1]; exact h.1, h.2.1, fun j hj => by rw [h2]; exact h.2.2.1 j hj, h.2.2.2⟩
theorem mk_up {μ : St} {x y : Int32} : Mk μ (up (up μ 10 0 0 13 x) 10 0 0 12 y) := fun k b i s hk => by
  unfold up
  rw [if_neg (by omega), if_neg (by omega)]
theorem ms_up {μ : St} {x : Bool} {c : Nat} : Ms (up (up μ 10 0 0 13 (bI x)) 10 0 0 12 (nI c)) (x, c) := ⟨up_self _ _ _ _ _ _, by rw [up_sl (by decide), up_self]⟩
section MTX
variable {t : Nat → Int32} {n c : Nat} {μ : St} (G : Gl)
theorem s_X8_here (hT : Tm μ t n) (h2 : μ 10 0 0 12 = nI c) (hc : c ≤ n) : Con G mX8_here [.ref (zad G.1 10 0 0)] μ (fun v μ9 => v = some (.int (hr t n c)) ∧ μ9 = μ) noX := by
  have hn := hT.2.1
  apply wX8_here
  rw [hT.1, h2]
  unfold hr
  refine ⟨fun z => ?_, fun z => ?_⟩
  · have := (nI_leI (by omega) (by omega)).mp z
    rw [if_neg (by omega)]
    exact ⟨rfl, rfl⟩
  · have : ¬ n ≤ c := fun w => z ((nI_leI (by omega) (by omega)).mpr w)
    rw [if_pos (by omega)]
    exact ⟨c, rfl, by omega, by rw [hT.2.2.1 c (by omega)], rfl⟩
theorem hr_btw {lo hi : Nat} (hl : lo < 2 ^ 31) (hh : hi < 127) : btw (hr t n c) (nI lo) (nI hi) = (decide (c < n) && btw (t c) (nI lo) (nI hi)) := by
  unfold hr
  by_cases h : c < n
  · rw [if_pos h, decide_eq_true h, Bool.true_and]
  · rw [if_neg h, decide_eq_false h, Bool.false_and]
    cases hb : btw (-1) (nI lo) (nI hi)
    · rfl
    · exfalso
      obtain ⟨m, m1, m2, m3⟩ := (btw_n (by omega) hl).mp hb
      have nn : ∀ n, n < 127 → ¬ nI n = -1 := by decide +kernel
      exact nn m (by omega) m3.symm
theorem s_X8_digit (hT : Tm μ t n) {s : Bool × Nat} (hs : Ms μ s) (hc : s.2 ≤ n) {lo hi : Nat} (hl : lo < 10) (hh : hi < 10) : Con G mX8_digit [.ref (zad G.1 10 0 0), .int (nI lo), .int (nI hi)] μ (fun v μ9 => v = some (.int (dV t n (nI (48 + lo)) (nI (48 + hi)) s)) ∧ Mk μ μ9 ∧ Ms μ9 (stp t n (nI (48 + lo)) (nI (48 + hi)) s)) noX := by
  obtain ⟨bad, c⟩ := s
  obtain ⟨h2, h3⟩ := hs
  have hn := hT.2.1
  apply wX8_digit
  have n10 : ¬ nI 1 = (0 : Int32) := by decide
  have n00 : nI 0 = (0 : Int32) := by decide
  cases bad
  · have h3' : μ 10 0 0 13 = 0 := h3
    refine ⟨fun z => absurd h3' z, fun _ => ?_⟩
    refine (s_X8_here G hT h2 hc).mono (fun v μ1 hp => ⟨_, hp.1, ?_⟩) (fun _ _ hp => hp)
    obtain ⟨-, rfl⟩ := hp
    rw [nI_add, nI_add, hr_btw (by omega) (by omega)]
    have h2' : μ1 10 0 0 12 = nI c := h2
    refine ⟨fun z => ⟨fun _ => ⟨fun _ => ?_, fun w => absurd n00 w⟩, fun w => absurd n00 w⟩, fun z => ⟨fun w => absurd w n10, fun _ => ⟨fun w => absurd w n10, fun _ => ?_⟩⟩⟩
    · have hcn : c < n := by
        rw [Bool.and_eq_true, decide_eq_true_eq] at z
        exact z.1
      have es := stp_ok z
      refine ⟨c, by rw [h2', nI_add, nI_sub (by omega), Nat.add_sub_cancel], by omega, ?_, mk_up, ?_⟩
      · unfold dV
        rw [es, if_neg (fun z => by cases z), hT.2.2.1 c hcn]
      · rw [es, h2', nI_add]
        exact ms_up
    · have es := stp_no z
      refine ⟨?_, mk_up, ?_⟩
      · unfold dV
        rw [es, if_pos rfl]
      · rw [es, h2', nI_0, Int32.add_zero]
        exact ms_up
  · have h3' : ¬ μ 10 0 0 13 = 0 := by rw [h3]; exact (by decide : ¬ bI true = 0)
    refine ⟨fun _ => ⟨fun w => absurd w n10, fun _ => ⟨fun w => absurd w n10, fun _ => ?_⟩⟩, fun z => absurd z h3'⟩
    have es : stp t n (nI (48 + lo)) (nI (48 + hi)) (true, c) = (true, c) := stp_bad rfl
    have h2' : μ 10 0 0 12 = nI c := h2
    refine ⟨?_, mk_up, ?_⟩
    · unfold dV
      rw [es, if_pos rfl]
    · rw [es, h2', nI_0, Int32.add_zero]
      exact ms_up
theorem hr_eq {ch : Nat} (h : ch < 127) : hr t n c = nI ch ↔ (decide (c < n) && btw (t c) (nI ch) (nI ch)) = true := by
  rw [← hr_btw (by omega) h, btw_n (by omega) (by omega)]
  exact ⟨fun z => ⟨ch, Nat.le_refl _, Nat.le_refl _, z⟩, fun ⟨m, m1, m2, m3⟩ => by rw [m3]; congr 1; omega⟩
theorem s_X8_take (hT : Tm μ t n) {s : Bool × Nat} (hs : Ms μ s) (hc : s.2 ≤ n) {ch : Nat} (hh : ch < 127) : Con G mX8_take [.ref (zad G.1 10 0 0), .int (nI ch)] μ (fun v μ9 => v = none ∧ Mk μ μ9 ∧ Ms μ9 (stp t n (nI ch) (nI ch) s)) noX := by
  obtain ⟨bad, c⟩ := s
  obtain ⟨h2, h3⟩ := hs
  have hn := hT.2.1
  apply wX8_take
  have n10 : ¬ nI 1 = (0 : Int32) := by decide
  have n00 : nI 0 = (0 : Int32) := by decide
  cases bad
  · have h3' : μ 10 0 0 13 = 0 := h3
    refine ⟨fun z => absurd h3' z, fun _ => ?_⟩
    refine (s_X8_here G hT h2 hc).mono (fun v μ1 hp => ⟨_, hp.1, ?_⟩) (fun _ _ hp => hp)
    obtain ⟨-, rfl⟩ := hp
    rw [hr_eq hh]
    have h2' : μ1 10 0 0 12 = nI c := h2
    refine ⟨fun z => ⟨fun _ => ?_, fun w => absurd n00 w⟩, fun z => ⟨fun w => absurd w n10, fun _ => ?_⟩⟩
    · rw [stp_ok z, h2', nI_add]
      exact ⟨rfl, mk_up, ms_up⟩
    · rw [stp_no (by rw [← Bool.not_eq_true]; exact z), h2', nI_0, Int32.add_zero]
      exact ⟨rfl, mk_up, ms_up⟩
  · have h3' : ¬ μ 10 0 0 13 = 0 := by rw [h3]; exact (by decide : ¬ bI true = 0)
    refine ⟨fun _ => ⟨fun w => absurd w n10, fun _ => ?_⟩, fun z => absurd z h3'⟩
    have h2' : μ 10 0 0 12 = nI c := h2
    rw [stp_bad rfl, h2', nI_0, Int32.add_zero]
    exact ⟨rfl, mk_up, ms_up⟩
theorem s_X8_guestNumber (hT : Tm μ t n) {s : Bool × Nat} (hs : Ms μ s) (hc : s.2 ≤ n) : Con G mX8_guestNumber [.ref (zad G.1 10 0 0)] μ (fun v μ9 => v = some (.int (gV t n s)) ∧ Mk μ μ9 ∧ Ms μ9 (gS t n s)) noX := by
  apply wX8_guestNumber
  refine (s_X8_digit G hT hs hc (lo := 0) (hi := 9) (by decide) (by decide)).mono (fun v μ1 hp => ⟨_, hp.1, ?_⟩) (fun _ _ hp => hp)
  obtain ⟨-, p1, p2⟩ := hp
  have b := stp_c (t := t) (n := n) (lo := nI 48) (hi := nI 57) (s := s)
  have hc1 := b.2.1 hc
  have e13 : μ1 10 0 0 13 = bI (stp t n (nI 48) (nI 57) s).1 := p2.2
  have gno : gT t n s = false → ∀ x, x = dV t n (nI 48) (nI 57) s → some (Value.int x) = some (.int (gV t n s)) ∧ Mk μ μ1 ∧ Ms μ1 (gS t n s) := fun hg x hx => by
    unfold gV gS
    rw [hg, if_neg (by decide), if_neg (by decide), hx]
    exact ⟨rfl, p1, p2⟩
  refine ⟨fun z => gno ?_ _ rfl, fun z => ⟨fun z1 => gno ?_ _ rfl, fun z1 => ?_⟩⟩
  · unfold gT
    rw [e13] at z
    rw [bI_nf z]; rfl
  · unfold gT
    rw [decide_eq_false (p := dV t n (nI 48) (nI 57) s = nI 1) z1, Bool.and_false, Bool.false_and, Bool.false_and]
  · have hb : (stp t n (nI 48) (nI 57) s).1 = false := by rw [e13] at z; exact bI_f z
    refine (s_X8_here G (hT.mk p1) p2.1 hc1).mono (fun v μ2 hp => ⟨_, hp.1, ?_⟩) (fun _ _ hp => hp)
    obtain ⟨-, rfl⟩ := hp
    have gt : gT t n s = (decide ((stp t n (nI 48) (nI 57) s).2 < n) && btw (t (stp t n (nI 48) (nI 57) s).2) (nI 48) (nI 53)) := by
      unfold gT
      rw [hb, decide_eq_true (p := dV t n (nI 48) (nI 57) s = nI 1) z1]; rfl
    rw [show hr t n (stp t n (nI (48 + 0)) (nI (48 + 9)) s).2 = hr t n (stp t n (nI 48) (nI 57) s).2 from rfl, hr_btw (by decide) (by decide), ← gt]
    refine ⟨fun z2 => gno z2 _ rfl, fun z2 => ?_⟩
    refine (s_X8_digit G (hT.mk p1) (s := stp t n (nI 48) (nI 57) s) p2 hc1 (lo := 0) (hi := 5) (by decide) (by decide)).mono (fun v μ3 hp => ⟨_, hp.1, ?_⟩) (fun _ _ hp => hp)
    obtain ⟨-, r1, r2⟩ := hp
    unfold gV gS
    rw [z2, if_pos rfl, if_pos rfl]
    exact ⟨rfl, p1.trans r1, r2⟩
/-- what an entry's reading leaves: place e of the reference's rows -/
def EnP (t : Nat → Int32) (n c e : Nat) (μ μ9 : St) : Prop := Ms μ9 (pS t n c) ∧ μ9 10 0 0 16 = nI (e + 1) ∧ (μ9 32 0 0 e = hr t n c ∧ μ9 33 0 0 e = pA t n c ∧ μ9 34 0 0 e = pB t n c) ∧ ∀ k b i s, ¬ (k = 10 ∧ (s = 12 ∨ s = 13 ∨ s = 16)) → ¬ ((k = 32 ∨ k = 33 ∨ k = 34) ∧ s = e) → μ9 k b i s = μ k b i s
/-- all but the place e -/
def Me (e : Nat) (μ μ' : St) : Prop := ∀ k b i s, ¬ (k = 10 ∧ (s = 12 ∨ s = 13)) → ¬ ((k = 32 ∨ k = 33 ∨ k = 34) ∧ s = e) → μ' k b i s = μ k b i s
theorem Me.tm {e : Nat} {μ' : St} (h : Me e μ μ') (hT : Tm μ t n) : Tm μ' t n := hT.of (h _ _ _ _ (by omega) (by omega)) (fun j => h _ _ _ _ (by omega) (by omega))
theorem Me.mk {e : Nat} {μ' μ'' : St} (h : Me e μ μ') (h' : Mk μ' μ'') : Me e μ μ'' := fun k b i s h1 h2 => by rw [h' k b i s h1, h k b i s h1 h2]
theorem me_up {e : Nat} {μ' : St} (h : Me e μ μ') {k : Nat} (hk : k = 32 ∨ k = 33 ∨ k = 34) {x : Int32} : Me e μ (up μ' k 0 0 e x) := fun k' b i s h1 h2 => by
  rw [show up μ' k 0 0 e x k' b i s = μ' k' b i s by unfold up; rw [if_neg (by omega)], h k' b i s h1 h2]
theorem t_211 {μ' : St} {e : Nat} (he : e < 60) (hT : Tm μ t n) (h16 : μ 10 0 0 16 = nI e) (hM : Me e μ μ') (hs : Ms μ' (pN t n c)) (hc : (pN t n c).2 ≤ n) (f32 : μ' 32 0 0 e = hr t n c) (f33 : μ' 33 0 0 e = pA t n c) (f34 : μ' 34 0 0 e = pB t n c) (y : Int32) : VL G mX8_entry (fun v μ9 => v = none ∧ EnP t n c e μ μ9) noX 211 [(0, .ref (zad G.1 10 0 0)), (1, .int y)] [] μ' := by
  apply wX8_entry_211
  refine (s_X8_take G (hM.tm hT) hs hc (ch := 59) (by decide)).mono (fun v μ1 hp => ?_) (fun _ _ hp => hp)
  obtain ⟨p1, p2, p3⟩ := hp
  have e16 : μ1 10 0 0 16 = nI e := by rw [p2 _ _ _ _ (by omega), hM _ _ _ _ (by omega) (by omega), h16]
  refine ⟨p1, rfl, ⟨?_, ?_⟩, by rw [up_self, e16, nI_add], ⟨?_, ?_, ?_⟩, fun k b i s h1 h2 => ?_⟩
  · rw [up_sl (by decide)]; exact p3.1
  · rw [up_sl (by decide)]; exact p3.2
  · rw [up_k (by decide), p2 _ _ _ _ (by omega), f32]
  · rw [up_k (by decide), p2 _ _ _ _ (by omega), f33]
  · rw [up_k (by decide), p2 _ _ _ _ (by omega), f34]
  · rw [show up μ1 10 0 0 16 ((μ1 10 0 0 16) + (nI 1)) k b i s = μ1 k b i s by unfold up; rw [if_neg (by omega)], p2 k b i s (by omega), hM k b i s (by omega) h2]
theorem t_65 {μ' : St} {e : Nat} (he : e < 60) (hT : Tm μ t n) (hc : c ≤ n) (h16 : μ 10 0 0 16 = nI e) (hM : Mk μ μ') (hs : Ms μ' (p0 t n c)) : VL G mX8_entry (fun v μ9 => v = none ∧ EnP t n c e μ μ9) noX 65 [(0, .ref (zad G.1 10 0 0)), (1, .int (hr t n c))] [] μ' := by
  have a := p0_c (t := t) (n := n) (c := c)
  have hc0 := a.2.1 hc
  have e16 : μ' 10 0 0 16 = nI e := by rw [hM _ _ _ _ (by omega), h16]
  have hM2 : Me e μ (up (up μ' 32 0 0 e (hr t n c)) 34 0 0 e (nI 0)) := me_up (me_up (fun k b i s h1 _ => hM k b i s h1) (Or.inl rfl)) (Or.inr (Or.inr rfl))
  have hs2 : Ms (up (up μ' 32 0 0 e (hr t n c)) 34 0 0 e (nI 0)) (p0 t n c) := ⟨by rw [up_k (by decide), up_k (by decide)]; exact hs.1, by rw [up_k (by decide), up_k (by decide)]; exact hs.2⟩
  have f32 : up (up μ' 32 0 0 e (hr t n c)) 34 0 0 e (nI 0) 32 0 0 e = hr t n c := by rw [up_k (by decide), up_self]
  have f34 : up (up μ' 32 0 0 e (hr t n c)) 34 0 0 e (nI 0) 34 0 0 e = nI 0 := up_self _ _ _ _ _ _
  have g16 : ∀ {μ3 : St}, Me e μ μ3 → μ3 10 0 0 16 = nI e := fun {μ3} h => by rw [h _ _ _ _ (by omega) (by omega), h16]
  -- a guest's number, a dash, a digit
  have T97 : (hr t n c = nI 113 ∨ hr t n c = nI 115) → VL G mX8_entry (fun v μ9 => v = none ∧ EnP t n c e μ μ9) noX 97 [(0, .ref (zad G.1 10 0 0)), (1, .int (hr t n c))] [] (up (up μ' 32 0 0 e (hr t n c)) 34 0 0 e (nI 0)) := fun hk => by
    generalize up (up μ' 32 0 0 e (hr t n c)) 34 0 0 e (nI 0) = μ2 at *
    have hA : pA t n c = gV t n (p0 t n c) := by unfold pA; rw [if_pos hk]
    apply wX8_entry_97
    refine (s_X8_guestNumber G (hM2.tm hT) hs2 hc0).mono (fun v μ3 hp => ⟨_, hp.1, e, g16 hM2, he, ?_⟩) (fun _ _ hp => hp)
    obtain ⟨-, p1, p2⟩ := hp
    have hM3 : Me e μ (up μ3 33 0 0 e (gV t n (p0 t n c))) := me_up (hM2.mk p1) (Or.inr (Or.inl rfl))
    have hs3 : Ms (up μ3 33 0 0 e (gV t n (p0 t n c))) (gS t n (p0 t n c)) := ⟨by rw [up_k (by decide)]; exact p2.1, by rw [up_k (by decide)]; exact p2.2⟩
    have f32' : up μ3 33 0 0 e (gV t n (p0 t n c)) 32 0 0 e = hr t n c := by rw [up_k (by decide), p1 _ _ _ _ (by omega), f32]
    have f33' : up μ3 33 0 0 e (gV t n (p0 t n c)) 33 0 0 e = pA t n c := by rw [up_self, hA]
    have hcg := (gS_c (t := t) (n := n) (s := p0 t n c)).2.1 hc0
    generalize up μ3 33 0 0 e (gV t n (p0 t n c)) = μ4 at *
    refine (s_X8_take G (hM3.tm hT) hs3 hcg (ch := 45) (by decide)).mono (fun v μ5 hp => ?_) (fun _ _ hp => hp)
    obtain ⟨r1, r2, r3⟩ := hp
    have hM5 := hM3.mk r2
    have hc5 := (stp_c (t := t) (n := n) (lo := nI 45) (hi := nI 45) (s := gS t n (p0 t n c))).2.1 hcg
    have fin : ∀ (hi : Nat), hi < 10 → pN t n c = stp t n (nI 48) (nI (48 + hi)) (stp t n (nI 45) (nI 45) (gS t n (p0 t n c))) → pB t n c = dV t n (nI 48) (nI (48 + hi)) (stp t n (nI 45) (nI 45) (gS t n (p0 t n c))) → Con G mX8_digit [.ref (zad G.1 10 0 0), .int (nI 0), .int (nI hi)] μ5 (fun v μ3 => ∃ r2 : Int32, v = some (.int r2) ∧ ∃ j2 : Nat, μ5 10 0 0 16 = nI j2 ∧ j2 < 60 ∧ VL G mX8_entry (fun v μ9 => v = none ∧ EnP t n c e μ μ9) noX 211 [(0, .ref (zad G.1 10 0 0)), (1, .int (hr t n c))] [] (up μ3 34 0 0 j2 r2)) noX := fun hi hhi hN hB => by
      refine (s_X8_digit G (hM5.tm hT) r3 hc5 (lo := 0) (hi := hi) (by decide) hhi).mono (fun v μ6 hp => ⟨_, hp.1, e, g16 hM5, he, ?_⟩) (fun _ _ hp => hp)
      obtain ⟨-, q1, q2⟩ := hp
      have hc6 := (stp_c (t := t) (n := n) (lo := nI 48) (hi := nI (48 + hi)) (s := stp t n (nI 45) (nI 45) (gS t n (p0 t n c)))).2.1 hc5
      refine t_211 G he hT h16 (me_up (hM5.mk q1) (Or.inr (Or.inr rfl))) ?_ (by rw [hN]; exact hc6) ?_ ?_ ?_ _
      · rw [hN]
        exact ⟨by rw [up_k (by decide)]; exact q2.1, by rw [up_k (by decide)]; exact q2.2⟩
      · rw [up_k (by decide), q1 _ _ _ _ (by omega), r2 _ _ _ _ (by omega), f32']
      · rw [up_k (by decide), q1 _ _ _ _ (by omega), r2 _ _ _ _ (by omega), f33']
      · rw [up_self, hB]
    refine ⟨r1, fun z => ?_, fun z => ?_⟩
    · have k5 : hr t n c = nI 115 := hk.resolve_left z
      exact fin 9 (by decide) (by unfold pN; rw [if_neg z, if_pos k5]) (by unfold pB; rw [if_neg z, if_pos k5])
    · exact fin 5 (by decide) (by unfold pN; rw [if_pos z]) (by unfold pB; rw [if_pos z])
  have T145 : ¬ hr t n c = nI 113 → ¬ hr t n c = nI 115 → VL G mX8_entry (fun v μ9 => v = none ∧ EnP t n c e μ μ9) noX 145 [(0, .ref (zad G.1 10 0 0)), (1, .int (hr t n c))] [] (up (up μ' 32 0 0 e (hr t n c)) 34 0 0 e (nI 0)) := fun k1 k2 => by
    generalize up (up μ' 32 0 0 e (hr t n c)) 34 0 0 e (nI 0) = μ2 at *
    have hno : ¬ (hr t n c = nI 113 ∨ hr t n c = nI 115) := fun w => w.elim k1 k2
    have fin : ∀ (lo : Nat), lo < 10 → pN t n c = stp t n (nI (48 + lo)) (nI 57) (p0 t n c) → pA t n c = dV t n (nI (48 + lo)) (nI 57) (p0 t n c) → pB t n c = nI 0 → Con G mX8_digit [.ref (zad G.1 10 0 0), .int (nI lo), .int (nI 9)] μ2 (fun v μ1 => ∃ r1 : Int32, v = some (.int r1) ∧ ∃ j1 : Nat, μ2 10 0 0 16 = nI j1 ∧ j1 < 60 ∧ VL G mX8_entry (fun v μ9 => v = none ∧ EnP t n c e μ μ9) noX 211 [(0, .ref (zad G.1 10 0 0)), (1, .int (hr t n c))] [] (up μ1 33 0 0 j1 r1)) noX := fun lo hlo hN hA hB => by
      refine (s_X8_digit G (hM2.tm hT) hs2 hc0 (lo := lo) (hi := 9) hlo (by decide)).mono (fun v μ6 hp => ⟨_, hp.1, e, g16 hM2, he, ?_⟩) (fun _ _ hp => hp)
      obtain ⟨-, q1, q2⟩ := hp
      have hc6 := (stp_c (t := t) (n := n) (lo := nI (48 + lo)) (hi := nI 57) (s := p0 t n c)).2.1 hc0
      refine t_211 G he hT h16 (me_up (hM2.mk q1) (Or.inr (Or.inl rfl))) ?_ (by rw [hN]; exact hc6) ?_ ?_ ?_ _
      · rw [hN]
        exact ⟨by rw [up_k (by decide)]; exact q2.1, by rw [up_k (by decide)]; exact q2.2⟩
      · rw [up_k (by decide), q1 _ _ _ _ (by omega), f32]
      · rw [up_self, hA]
      · rw [up_k (by decide), q1 _ _ _ _ (by omega), f34, hB]
    apply wX8_entry_145
    refine ⟨fun z => ⟨fun w => ?_, fun w => ?_⟩, fun z => ?_⟩
    · exact fin 0 (by decide) (by unfold pN; rw [if_neg k1, if_neg k2, if_neg z, if_neg w]) (by unfold pA; rw [if_neg hno, if_neg z, if_neg w]) (by unfold pB; rw [if_neg k1, if_neg k2, if_neg z])
    · exact fin 1 (by decide) (by unfold pN; rw [if_neg k1, if_neg k2, if_neg z, if_pos w]) (by unfold pA; rw [if_neg hno, if_neg z, if_pos w]) (by unfold pB; rw [if_neg k1, if_neg k2, if_neg z])
    · have hN : pN t n c = stp t n (nI 49) (nI 51) (stp t n (nI 48) (nI 55) (p0 t n c)) := by unfold pN; rw [if_neg k1, if_neg k2, if_pos z]
      have hA : pA t n c = dV t n (nI 48) (nI 55) (p0 t n c) := by unfold pA; rw [if_neg hno, if_pos z]
      have hB : pB t n c = dV t n (nI 49) (nI 51) (stp t n (nI 48) (nI 55) (p0 t n c)) := by unfold pB; rw [if_neg k1, if_neg k2, if_pos z]
      refine (s_X8_digit G (hM2.tm hT) hs2 hc0 (lo := 0) (hi := 7) (by decide) (by decide)).mono (fun v μ6 hp => ⟨_, hp.1, e, g16 hM2, he, ?_⟩) (fun _ _ hp => hp)
      obtain ⟨-, q1, q2⟩ := hp
      have hM6 : Me e μ (up μ6 33 0 0 e (dV t n (nI (48 + 0)) (nI (48 + 7)) (p0 t n c))) := me_up (hM2.mk q1) (Or.inr (Or.inl rfl))
      have hs6 : Ms (up μ6 33 0 0 e (dV t n (nI (48 + 0)) (nI (48 + 7)) (p0 t n c))) (stp t n (nI 48) (nI 55) (p0 t n c)) := ⟨by rw [up_k (by decide)]; exact q2.1, by rw [up_k (by decide)]; exact q2.2⟩
      have f32' : up μ6 33 0 0 e (dV t n (nI (48 + 0)) (nI (48 + 7)) (p0 t n c)) 32 0 0 e = hr t n c := by rw [up_k (by decide), q1 _ _ _ _ (by omega), f32]
      have f33' : up μ6 33 0 0 e (dV t n (nI (48 + 0)) (nI (48 + 7)) (p0 t n c)) 33 0 0 e = pA t n c := by rw [up_self, hA]
      have hc6 := (stp_c (t := t) (n := n) (lo := nI 48) (hi := nI 55) (s := p0 t n c)).2.1 hc0
      have e6 : μ6 10 0 0 16 = nI e := by rw [q1 _ _ _ _ (by omega), g16 hM2]
      generalize up μ6 33 0 0 e (dV t n (nI (48 + 0)) (nI (48 + 7)) (p0 t n c)) = μ7 at *
      refine (s_X8_digit G (hM6.tm hT) hs6 hc6 (lo := 1) (hi := 3) (by decide) (by decide)).mono (fun v μ8 hp => ⟨_, hp.1, e, e6, he, ?_⟩) (fun _ _ hp => hp)
      obtain ⟨-, r1, r2⟩ := hp
      have hc8 := (stp_c (t := t) (n := n) (lo := nI 49) (hi := nI 51) (s := stp t n (nI 48) (nI 55) (p0 t n c))).2.1 hc6
      refine t_211 G he hT h16 (me_up (hM6.mk r1) (Or.inr (Or.inr rfl))) ?_ (by rw [hN]; exact hc8) ?_ ?_ ?_ _
      · rw [hN]
        exact ⟨by rw [up_k (by decide)]; exact r2.1, by rw [up_k (by decide)]; exact r2.2⟩
      · rw [up_k (by decide), r1 _ _ _ _ (by omega), f32']
      · rw [up_k (by decide), r1 _ _ _ _ (by omega), f33']
      · rw [up_self, hB]
  apply wX8_entry_65
  exact ⟨e, e16, he, e, e16, he, fun z => T97 (Or.inl z), fun z => ⟨fun w => T145 z w, fun w => T97 (Or.inr w)⟩⟩
theorem s_X8_entry {e : Nat} (he : e < 60) (hT : Tm μ t n) (hc : c ≤ n) (h12 : μ 10 0 0 12 = nI c) (h16 : μ 10 0 0 16 = nI e) : Con G mX8_entry [.ref (zad G.1 10 0 0)] μ (fun v μ9 => v = none ∧ EnP t n c e μ μ9) noX := by
  apply wX8_entry
  refine (s_X8_here G hT h12 hc).mono (fun v μ1 hp => ⟨_, hp.1, ?_⟩) (fun _ _ hp => hp)
  obtain ⟨-, rfl⟩ := hp
  have good : kd (hr t n c) = true → VL G mX8_entry (fun v μ9 => v = none ∧ EnP t n c e μ1 μ9) noX 44 [(0, .ref (zad G.1 10 0 0)), (1, .int (hr t n c))] [] (up μ1 10 0 0 13 (nI 0)) := fun hk => by
    have e0 : p0 t n c = (false, c + 1) := by unfold p0; rw [if_pos hk]
    apply wX8_entry_44
    rw [up_self, up_sl (by decide), h12, nI_add]
    exact ⟨fun _ => t_65 G he hT hc h16 mk_up (by rw [e0]; exact ms_up (x := false)), fun z => absurd (show nI 0 = (0 : Int32) by decide) z⟩
  refine ⟨fun z => good (by rw [z]; decide), fun n1 => ⟨fun z => good (by rw [z]; decide), fun n2 => ⟨fun z => good (by rw [z]; decide), fun n3 => ⟨fun z => good (by rw [z]; decide), fun n4 => ⟨fun z => good (by rw [z]; decide), fun n5 => ?_⟩⟩⟩⟩⟩
  have hk : kd (hr t n c) = false := by
    unfold kd
    rw [decide_eq_false n1, decide_eq_false n2, decide_eq_false n3, decide_eq_false n4, decide_eq_false n5]; rfl
  have e0 : p0 t n c = (true, c) := by unfold p0; rw [if_neg (by rw [hk]; decide)]
  apply wX8_entry_44
  rw [up_self, up_sl (by decide), h12, nI_0, Int32.add_zero]
  exact ⟨fun z => absurd z (by decide), fun _ => t_65 G he hT hc h16 mk_up (by rw [e0]; exact ms_up (x := true))⟩
def MiP (t : Nat → Int32) (n : Nat) (μ : St) (v : Option Value) (μ9 : St) : Prop := (∀ k b i s, ¬ (k = 10 ∧ (s = 12 ∨ s = 13 ∨ s = 16)) → k ≠ 32 → k ≠ 33 → k ≠ 34 → μ9 k b i s = μ k b i s) ∧ ((v = some (.int (bI true)) ∧ ∃ E, TxOk t n E ∧ μ9 10 0 0 16 = nI E ∧ ∀ e, e < E → μ9 32 0 0 e = hr t n (pC t n e) ∧ μ9 33 0 0 e = pA t n (pC t n e) ∧ μ9 34 0 0 e = pB t n (pC t n e)) ∨ (v = some (.int (bI false)) ∧ ∃ E, TxBad t n E ∧ μ9 10 0 0 12 = nI (pS t n (pC t n E)).2))
theorem s_X8_isText (hT : Tm μ t n) : Con G mX8_isText [.ref (zad G.1 10 0 0)] μ (MiP t n μ) noX := by
  have hn := hT.2.1
  have T : ∀ d e (μ' : St), e + d = 20 → (e = 0 ∨ pC t n e < n) → (∀ k b i s, ¬ (k = 10 ∧ (s = 12 ∨ s = 13 ∨ s = 16)) → k ≠ 32 → k ≠ 33 → k ≠ 34 → μ' k b i s = μ k b i s) → μ' 10 0 0 16 = nI e → μ' 10 0 0 12 = nI (pC t n e) → (∀ e', e' < e → (pS t n (pC t n e')).1 = false) → (∀ e', 1 ≤ e' → e' < e → pC t n e' < n) → (∀ e', e' < e → μ' 32 0 0 e' = hr t n (pC t n e') ∧ μ' 33 0 0 e' = pA t n (pC t n e') ∧ μ' 34 0 0 e' = pB t n (pC t n e')) → VL G mX8_isText (MiP t n μ) noX 15 [(0, .ref (zad G.1 10 0 0))] [] μ' := by
    intro d
    induction d with
    | zero =>
      intro e μ' he h0 hk h16 h12 ok lt rows
      exfalso
      have a := pC_3 ok e (Nat.le_refl _)
      rcases h0 with h0 | h0
      · omega
      · omega
    | succ d ih =>
      intro e μ' he h0 hk h16 h12 ok lt rows
      have hT' : Tm μ' t n := hT.of (hk _ _ _ _ (by omega) (by decide) (by decide) (by decide)) (fun j => hk _ _ _ _ (by omega) (by decide) (by decide) (by decide))
      apply wX8_isText_15
      refine (s_X8_entry G (e := e) (by omega) hT' (pC_c e) h12 h16).mono (fun v μ1 hp => ?_) (fun _ _ hp => hp)
      obtain ⟨p1, ⟨p2, p3⟩, p4, p5, p6⟩ := hp
      have hk1 : ∀ k b i s, ¬ (k = 10 ∧ (s = 12 ∨ s = 13 ∨ s = 16)) → k ≠ 32 → k ≠ 33 → k ≠ 34 → μ1 k b i s = μ k b i s := fun k b i s h1 h2 h3 h4 => by rw [p6 k b i s h1 (by omega), hk k b i s h1 h2 h3 h4]
      have rows1 : ∀ e', e' < e + 1 → μ1 32 0 0 e' = hr t n (pC t n e') ∧ μ1 33 0 0 e' = pA t n (pC t n e') ∧ μ1 34 0 0 e' = pB t n (pC t n e') := fun e' he' => by
        by_cases c : e' = e
        · subst c; exact p5
        · rw [p6 32 0 0 e' (by omega) (by omega), p6 33 0 0 e' (by omega) (by omega), p6 34 0 0 e' (by omega) (by omega)]
          exact rows e' (by omega)
      have lt1 : ∀ e', 1 ≤ e' → e' ≤ e → pC t n e' < n := fun e' h1 he' => by
        rcases Nat.lt_or_ge e' e with w | w
        · exact lt e' h1 w
        · obtain rfl : e' = e := by omega
          rcases h0 with h0 | h0
          · omega
          · exact h0
      cases hq : (pS t n (pC t n e)).1
      · have e13 : μ1 10 0 0 13 = 0 := by rw [p3, hq]; rfl
        have e10 : μ1 10 0 0 10 = nI n := by rw [hk1 _ _ _ _ (by omega) (by decide) (by decide) (by decide)]; exact hT.1
        have ok1 : ∀ e', e' < e + 1 → (pS t n (pC t n e')).1 = false := fun e' he' => by
          rcases Nat.lt_or_ge e' e with w | w
          · exact ok e' w
          · obtain rfl : e' = e := by omega
            exact hq
        have b := pC_c (t := t) (n := n) (e + 1)
        have p2' : μ1 10 0 0 12 = nI (pC t n (e + 1)) := p2
        refine ⟨p1, fun z => absurd e13 z, fun _ => ?_⟩
        rw [p2', e10, nI_ltI (by omega) (by omega)]
        refine ⟨fun z => ?_, fun z => ⟨fun w => absurd e13 w, fun _ => ?_⟩⟩
        · exact ih (e + 1) μ1 (by omega) (Or.inr z) hk1 p4 p2' ok1 (fun e' h1 he' => lt1 e' h1 (by omega)) rows1
        · exact ⟨hk1, Or.inl ⟨rfl, e + 1, ⟨by omega, ok1, fun e' h1 he' => lt1 e' h1 (by omega), by omega⟩, p4, rows1⟩⟩
      · have e13 : ¬ μ1 10 0 0 13 = 0 := by rw [p3, hq]; decide
        exact ⟨p1, fun _ => ⟨fun _ => ⟨hk1, Or.inr ⟨rfl, e, ⟨ok, lt1, hq⟩, p2⟩⟩, fun z => absurd z e13⟩, fun z => absurd z e13⟩
  apply wX8_isText
  refine T 20 0 _ (by omega) (Or.inl rfl) (fun k b i s h1 h2 h3 h4 => ?_) (up_self _ _ _ _ _ _) (by rw [up_sl (by decide), up_sl (by decide), up_self]; rfl) (fun e h => absurd h (by omega)) (fun e _ h => absurd h (by omega)) (fun e h => absurd h (by omega))
  unfold up
  rw [if_neg (by omega), if_neg (by omega), if_neg (by omega)]
end MTX
