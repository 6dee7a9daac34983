/-! ===== the class reads a text ===== -/
def PE (t : Nat → Int32) (n c : Nat) (μ : St) (v : Option Value) (μ9 : St) : Prop := v = some (.int (bI (!(pS t n c).1))) ∧ Kq μ μ9 ∧ μ9 5 0 0 2 = nI (pS t n c).2 ∧ ((pS t n c).1 = false → μ9 5 0 0 4 = hr t n c ∧ μ9 5 0 0 5 = pA t n c ∧ (hr t n c = nI 103 ∨ hr t n c = nI 113 ∨ hr t n c = nI 115 → μ9 5 0 0 6 = pB t n c))
section CT2
variable {t : Nat → Int32} {n c : Nat} {μ : St} (G : Gl)
theorem PE_bad {μ3 : St} (hN : (pN t n c).1 = true) (hk : Kq μ μ3) (h2 : μ3 5 0 0 2 = nI (pN t n c).2) : PE t n c μ (some (.int (nI 0))) μ3 := by
  have e : pS t n c = pN t n c := stp_bad hN
  unfold PE
  rw [e, hN]
  exact ⟨rfl, hk, h2, fun z => by cases z⟩
theorem tl_sgn {μ1 : St} {c2 : Nat} (hN : pN t n c = (false, c2)) (hT : Tc μ t n) (hk : Kq μ μ1) (h2 : μ1 5 0 0 2 = nI c2) (hc2 : c2 ≤ n) (h4 : μ1 5 0 0 4 = hr t n c) (h5 : μ1 5 0 0 5 = pA t n c) (h6 : hr t n c = nI 103 ∨ hr t n c = nI 113 ∨ hr t n c = nI 115 → μ1 5 0 0 6 = pB t n c) : Con G mX3_takeSign [.ref (zad G.1 5 0 0), .int (nI 59)] μ1 (fun v μ3 => ∃ r : Bool, v = some (.int (bI r)) ∧ ((r = false → PE t n c μ (some (.int (nI 0))) μ3) ∧ (r = true → PE t n c μ (some (.int (nI 1))) μ3))) noX := by
  refine (s_X3_takeSign G (hT.kq hk) h2 hc2 (nI 59)).mono (fun v μ3 hp => ?_) (fun _ _ hp => hp)
  obtain ⟨p1, p2, p3⟩ := hp
  have e : pS t n c = stp t n (nI 59) (nI 59) (false, c2) := by unfold pS; rw [hN]
  have f : ∀ s, s ≠ 2 → μ3 5 0 0 s = μ1 5 0 0 s := fun s hs => p2 5 0 0 s (by omega)
  have fin : ((pS t n c).1 = false → μ3 5 0 0 4 = hr t n c ∧ μ3 5 0 0 5 = pA t n c ∧ (hr t n c = nI 103 ∨ hr t n c = nI 113 ∨ hr t n c = nI 115 → μ3 5 0 0 6 = pB t n c)) := fun _ => ⟨by rw [f 4 (by decide), h4], by rw [f 5 (by decide), h5], fun z => by rw [f 6 (by decide), h6 z]⟩
  rw [← e] at p1 p3
  refine ⟨_, p1, fun z => ⟨?_, hk.trans p2.kq, p3, fin⟩, fun z => ⟨?_, hk.trans p2.kq, p3, fin⟩⟩
  · rw [z]; rfl
  · rw [z]; rfl
theorem tl_tgt {μ1 : St} {c1 lo hi : Nat} (hl : 48 ≤ lo) (hh : hi < 2 ^ 31) (hl2 : lo < 2 ^ 31) (hN : pN t n c = stp t n (nI lo) (nI hi) (false, c1)) (hB : pB t n c = dV t n (nI lo) (nI hi) (false, c1)) (hT : Tc μ t n) (hk : Kq μ μ1) (h2 : μ1 5 0 0 2 = nI c1) (hc1 : c1 ≤ n) (h4 : μ1 5 0 0 4 = hr t n c) (h5 : μ1 5 0 0 5 = pA t n c) : Con G mX3_takeTarget [.ref (zad G.1 5 0 0), .int (nI lo), .int (nI hi)] μ1 (fun v μ3 => ∃ r3 : Bool, v = some (.int (bI r3)) ∧ ((r3 = false → PE t n c μ (some (.int (nI 0))) μ3) ∧ (r3 = true → Con G mX3_takeSign [.ref (zad G.1 5 0 0), .int (nI 59)] μ3 (fun v μ4 => ∃ r4 : Bool, v = some (.int (bI r4)) ∧ ((r4 = false → PE t n c μ (some (.int (nI 0))) μ4) ∧ (r4 = true → PE t n c μ (some (.int (nI 1))) μ4))) noX))) noX := by
  refine (s_X3_takeTarget G (hT.kq hk) h2 hc1 lo hi hl hh hl2).mono (fun v μ3 hp => ?_) (fun _ _ hp => hp)
  obtain ⟨p1, p2, p3, p4⟩ := hp
  have b := stp_c (t := t) (n := n) (lo := nI lo) (hi := nI hi) (s := (false, c1))
  have hk3 : Kq μ μ3 := hk.trans (fun k b i s hk => p2 k b i s (by omega))
  rw [← hN] at p1 p3 p4 b
  rw [← hB] at p4
  refine ⟨_, p1, fun z => ?_, fun z => ?_⟩
  · exact PE_bad (by cases hq : (pN t n c).1 <;> simp_all) hk3 p3
  · have hq : (pN t n c).1 = false := by cases hq : (pN t n c).1 <;> simp_all
    exact tl_sgn G (Prod.ext hq rfl) hT hk3 p3 (b.2.1 hc1) (by rw [p2 5 0 0 4 (by omega), h4]) (by rw [p2 5 0 0 5 (by omega), h5]) (fun _ => p4 hq)
/-- a number, then the sign -/
theorem tl_num {μ1 : St} {c1 lo hi : Nat} (hl : 48 ≤ lo) (hh : hi < 2 ^ 31) (hl2 : lo < 2 ^ 31) (hN : pN t n c = stp t n (nI lo) (nI hi) (false, c1)) (hA : pA t n c = dV t n (nI lo) (nI hi) (false, c1)) (hT : Tc μ t n) (hk : Kq μ μ1) (h2 : μ1 5 0 0 2 = nI c1) (hc1 : c1 ≤ n) (h4 : μ1 5 0 0 4 = hr t n c) (hno : ¬ (hr t n c = nI 103 ∨ hr t n c = nI 113 ∨ hr t n c = nI 115)) : Con G mX3_takeNumber [.ref (zad G.1 5 0 0), .int (nI lo), .int (nI hi)] μ1 (fun v μ3 => ∃ r3 : Bool, v = some (.int (bI r3)) ∧ ((r3 = false → PE t n c μ (some (.int (nI 0))) μ3) ∧ (r3 = true → Con G mX3_takeSign [.ref (zad G.1 5 0 0), .int (nI 59)] μ3 (fun v μ4 => ∃ r4 : Bool, v = some (.int (bI r4)) ∧ ((r4 = false → PE t n c μ (some (.int (nI 0))) μ4) ∧ (r4 = true → PE t n c μ (some (.int (nI 1))) μ4))) noX))) noX := by
  refine (s_X3_takeNumber G (hT.kq hk) h2 hc1 lo hi hl hh hl2).mono (fun v μ3 hp => ?_) (fun _ _ hp => hp)
  obtain ⟨p1, p2, p3, p4⟩ := hp
  have b := stp_c (t := t) (n := n) (lo := nI lo) (hi := nI hi) (s := (false, c1))
  have hk3 : Kq μ μ3 := hk.trans (fun k b i s hk => p2 k b i s (by omega))
  rw [← hN] at p1 p3 p4 b
  rw [← hA] at p4
  refine ⟨_, p1, fun z => ?_, fun z => ?_⟩
  · exact PE_bad (by cases hq : (pN t n c).1 <;> simp_all) hk3 p3
  · have hq : (pN t n c).1 = false := by cases hq : (pN t n c).1 <;> simp_all
    exact tl_sgn G (Prod.ext hq rfl) hT hk3 p3 (b.2.1 hc1) (by rw [p2 5 0 0 4 (by omega), h4]) (p4 hq) (fun z => absurd z hno)
/-- a guest's number, a dash, a digit, the sign -/
theorem tl_gst {μ1 : St} {c1 lo hi : Nat} (hl : 48 ≤ lo) (hh : hi < 2 ^ 31) (hl2 : lo < 2 ^ 31) (hN : pN t n c = stp t n (nI lo) (nI hi) (stp t n (nI 45) (nI 45) (gS t n (false, c1)))) (hA : pA t n c = gV t n (false, c1)) (hB : pB t n c = dV t n (nI lo) (nI hi) (stp t n (nI 45) (nI 45) (gS t n (false, c1)))) (hT : Tc μ t n) (hk : Kq μ μ1) (h2 : μ1 5 0 0 2 = nI c1) (hc1 : c1 ≤ n) (h4 : μ1 5 0 0 4 = hr t n c) : Con G mX3_takeGuest [.ref (zad G.1 5 0 0)] μ1 (fun v μ5 => ∃ r5 : Bool, v = some (.int (bI r5)) ∧ ((r5 = false → PE t n c μ (some (.int (nI 0))) μ5) ∧ (r5 = true → Con G mX3_takeSign [.ref (zad G.1 5 0 0), .int (nI 45)] μ5 (fun v μ6 => ∃ r6 : Bool, v = some (.int (bI r6)) ∧ ((r6 = false → PE t n c μ (some (.int (nI 0))) μ6) ∧ (r6 = true → Con G mX3_takeTarget [.ref (zad G.1 5 0 0), .int (nI lo), .int (nI hi)] μ6 (fun v μ7 => ∃ r7 : Bool, v = some (.int (bI r7)) ∧ ((r7 = false → PE t n c μ (some (.int (nI 0))) μ7) ∧ (r7 = true → Con G mX3_takeSign [.ref (zad G.1 5 0 0), .int (nI 59)] μ7 (fun v μ8 => ∃ r8 : Bool, v = some (.int (bI r8)) ∧ ((r8 = false → PE t n c μ (some (.int (nI 0))) μ8) ∧ (r8 = true → PE t n c μ (some (.int (nI 1))) μ8))) noX))) noX))) noX))) noX := by
  refine (s_X3_takeGuest G (hT.kq hk) h2 hc1).mono (fun v μ5 hp => ?_) (fun _ _ hp => hp)
  obtain ⟨p1, p2, p3, p4⟩ := hp
  have b := gS_c (t := t) (n := n) (s := (false, c1))
  have hk5 : Kq μ μ5 := hk.trans (fun k b i s hk => p2 k b i s (by omega))
  refine ⟨_, p1, fun z => ?_, fun z => ?_⟩
  · have hq : (gS t n (false, c1)).1 = true := by cases hq : (gS t n (false, c1)).1 <;> simp_all
    rw [stp_bad hq, stp_bad hq] at hN
    exact PE_bad (by rw [hN, hq]) hk5 (by rw [hN]; exact p3)
  · have hq : (gS t n (false, c1)).1 = false := by cases hq : (gS t n (false, c1)).1 <;> simp_all
    have eg : gS t n (false, c1) = (false, (gS t n (false, c1)).2) := Prod.ext hq rfl
    have p5 := p4 hq
    rw [← hA] at p5
    have hc5 := b.2.1 hc1
    generalize (gS t n (false, c1)).2 = c5 at *
    rw [eg] at hN hB
    refine (s_X3_takeSign G (hT.kq hk5) p3 hc5 (nI 45)).mono (fun v μ6 hp => ?_) (fun _ _ hp => hp)
    obtain ⟨r1, r2, r3⟩ := hp
    have hk6 : Kq μ μ6 := hk5.trans r2.kq
    have b2 := stp_c (t := t) (n := n) (lo := nI 45) (hi := nI 45) (s := (false, c5))
    refine ⟨_, r1, fun z => ?_, fun z => ?_⟩
    · have hq2 : (stp t n (nI 45) (nI 45) (false, c5)).1 = true := by cases hq2 : (stp t n (nI 45) (nI 45) (false, c5)).1 <;> simp_all
      rw [stp_bad hq2] at hN
      exact PE_bad (by rw [hN, hq2]) hk6 (by rw [hN]; exact r3)
    · have hq2 : (stp t n (nI 45) (nI 45) (false, c5)).1 = false := by cases hq2 : (stp t n (nI 45) (nI 45) (false, c5)).1 <;> simp_all
      have es : stp t n (nI 45) (nI 45) (false, c5) = (false, (stp t n (nI 45) (nI 45) (false, c5)).2) := Prod.ext hq2 rfl
      have hc6 := b2.2.1 hc5
      generalize (stp t n (nI 45) (nI 45) (false, c5)).2 = c6 at *
      rw [es] at hN hB
      exact tl_tgt G hl hh hl2 hN hB hT hk6 r3 hc6 (by rw [r2 5 0 0 4 (by omega), p2 5 0 0 4 (by omega), h4]) (by rw [r2 5 0 0 5 (by omega), p5])
theorem te_chain (hT : Tc μ t n) (h2 : μ 5 0 0 2 = nI c) (hcn : c < n) : ((μ 24 0 0 c = nI 103 → Con G mX3_takeNumber [.ref (zad G.1 5 0 0), .int (nI 48), .int (nI 55)] (up (up μ 5 0 0 4 (μ 24 0 0 c)) 5 0 0 2 ((μ 5 0 0 2) + (nI 1))) (fun v μ2 => ∃ r2 : Bool, v = some (.int (bI r2)) ∧ ((r2 = false → PE t n c μ (some (.int (nI 0))) μ2) ∧ (r2 = true → Con G mX3_takeTarget [.ref (zad G.1 5 0 0), .int (nI 49), .int (nI 51)] μ2 (fun v μ3 => ∃ r3 : Bool, v = some (.int (bI r3)) ∧ ((r3 = false → PE t n c μ (some (.int (nI 0))) μ3) ∧ (r3 = true → Con G mX3_takeSign [.ref (zad G.1 5 0 0), .int (nI 59)] μ3 (fun v μ4 => ∃ r4 : Bool, v = some (.int (bI r4)) ∧ ((r4 = false → PE t n c μ (some (.int (nI 0))) μ4) ∧ (r4 = true → PE t n c μ (some (.int (nI 1))) μ4))) noX))) noX))) noX) ∧ (¬ μ 24 0 0 c = nI 103 → ((μ 24 0 0 c = nI 113 → Con G mX3_takeGuest [.ref (zad G.1 5 0 0)] (up (up μ 5 0 0 4 (μ 24 0 0 c)) 5 0 0 2 ((μ 5 0 0 2) + (nI 1))) (fun v μ5 => ∃ r5 : Bool, v = some (.int (bI r5)) ∧ ((r5 = false → PE t n c μ (some (.int (nI 0))) μ5) ∧ (r5 = true → Con G mX3_takeSign [.ref (zad G.1 5 0 0), .int (nI 45)] μ5 (fun v μ6 => ∃ r6 : Bool, v = some (.int (bI r6)) ∧ ((r6 = false → PE t n c μ (some (.int (nI 0))) μ6) ∧ (r6 = true → Con G mX3_takeTarget [.ref (zad G.1 5 0 0), .int (nI 48), .int (nI 53)] μ6 (fun v μ7 => ∃ r7 : Bool, v = some (.int (bI r7)) ∧ ((r7 = false → PE t n c μ (some (.int (nI 0))) μ7) ∧ (r7 = true → Con G mX3_takeSign [.ref (zad G.1 5 0 0), .int (nI 59)] μ7 (fun v μ8 => ∃ r8 : Bool, v = some (.int (bI r8)) ∧ ((r8 = false → PE t n c μ (some (.int (nI 0))) μ8) ∧ (r8 = true → PE t n c μ (some (.int (nI 1))) μ8))) noX))) noX))) noX))) noX) ∧ (¬ μ 24 0 0 c = nI 113 → ((μ 24 0 0 c = nI 115 → Con G mX3_takeGuest [.ref (zad G.1 5 0 0)] (up (up μ 5 0 0 4 (μ 24 0 0 c)) 5 0 0 2 ((μ 5 0 0 2) + (nI 1))) (fun v μ9 => ∃ r9 : Bool, v = some (.int (bI r9)) ∧ ((r9 = false → PE t n c μ (some (.int (nI 0))) μ9) ∧ (r9 = true → Con G mX3_takeSign [.ref (zad G.1 5 0 0), .int (nI 45)] μ9 (fun v μ10 => ∃ r10 : Bool, v = some (.int (bI r10)) ∧ ((r10 = false → PE t n c μ (some (.int (nI 0))) μ10) ∧ (r10 = true → Con G mX3_takeTarget [.ref (zad G.1 5 0 0), .int (nI 48), .int (nI 57)] μ10 (fun v μ11 => ∃ r11 : Bool, v = some (.int (bI r11)) ∧ ((r11 = false → PE t n c μ (some (.int (nI 0))) μ11) ∧ (r11 = true → Con G mX3_takeSign [.ref (zad G.1 5 0 0), .int (nI 59)] μ11 (fun v μ12 => ∃ r12 : Bool, v = some (.int (bI r12)) ∧ ((r12 = false → PE t n c μ (some (.int (nI 0))) μ12) ∧ (r12 = true → PE t n c μ (some (.int (nI 1))) μ12))) noX))) noX))) noX))) noX) ∧ (¬ μ 24 0 0 c = nI 115 → ((μ 24 0 0 c = nI 116 → Con G mX3_takeNumber [.ref (zad G.1 5 0 0), .int (nI 49), .int (nI 57)] (up (up μ 5 0 0 4 (μ 24 0 0 c)) 5 0 0 2 ((μ 5 0 0 2) + (nI 1))) (fun v μ13 => ∃ r13 : Bool, v = some (.int (bI r13)) ∧ ((r13 = false → PE t n c μ (some (.int (nI 0))) μ13) ∧ (r13 = true → Con G mX3_takeSign [.ref (zad G.1 5 0 0), .int (nI 59)] μ13 (fun v μ14 => ∃ r14 : Bool, v = some (.int (bI r14)) ∧ ((r14 = false → PE t n c μ (some (.int (nI 0))) μ14) ∧ (r14 = true → PE t n c μ (some (.int (nI 1))) μ14))) noX))) noX) ∧ (¬ μ 24 0 0 c = nI 116 → ((μ 24 0 0 c = nI 119 → Con G mX3_takeNumber [.ref (zad G.1 5 0 0), .int (nI 48), .int (nI 57)] (up (up μ 5 0 0 4 (μ 24 0 0 c)) 5 0 0 2 ((μ 5 0 0 2) + (nI 1))) (fun v μ15 => ∃ r15 : Bool, v = some (.int (bI r15)) ∧ ((r15 = false → PE t n c μ (some (.int (nI 0))) μ15) ∧ (r15 = true → Con G mX3_takeSign [.ref (zad G.1 5 0 0), .int (nI 59)] μ15 (fun v μ16 => ∃ r16 : Bool, v = some (.int (bI r16)) ∧ ((r16 = false → PE t n c μ (some (.int (nI 0))) μ16) ∧ (r16 = true → PE t n c μ (some (.int (nI 1))) μ16))) noX))) noX) ∧ (¬ μ 24 0 0 c = nI 119 → PE t n c μ (some (.int (nI 0))) (up μ 5 0 0 4 (μ 24 0 0 c)))))))))))) := by
  have ht : μ 24 0 0 c = t c := hT.2.2.1 c hcn
  have hh : hr t n c = t c := by unfold hr; rw [if_pos hcn]
  rw [ht, ← hh]
  have hk : ∀ {x y : Int32}, Kq μ (up (up μ 5 0 0 4 x) 5 0 0 2 y) := fun {x y} k b i s hk => by
    rw [show up (up μ 5 0 0 4 x) 5 0 0 2 y k b i s = up μ 5 0 0 4 x k b i s by unfold up; rw [if_neg (by omega)], show up μ 5 0 0 4 x k b i s = μ k b i s by unfold up; rw [if_neg (by omega)]]
  have e2 : up (up μ 5 0 0 4 (hr t n c)) 5 0 0 2 ((μ 5 0 0 2) + (nI 1)) 5 0 0 2 = nI (c + 1) := by rw [up_self, h2, nI_add]
  have e4 : up (up μ 5 0 0 4 (hr t n c)) 5 0 0 2 ((μ 5 0 0 2) + (nI 1)) 5 0 0 4 = hr t n c := by rw [up_sl (by decide), up_self]
  have kp : kd (hr t n c) = true → p0 t n c = (false, c + 1) := fun z => by unfold p0; rw [if_pos z]
  have ne : ∀ {a b : Nat}, hr t n c = nI a → a ≠ b → a < 2 ^ 31 → b < 2 ^ 31 → ¬ hr t n c = nI b := fun {a b} z h1 h2 h3 => by rw [z]; exact nI_ne h1 h2 h3
  refine ⟨fun z => ?_, fun n1 => ⟨fun z => ?_, fun n2 => ⟨fun z => ?_, fun n3 => ⟨fun z => ?_, fun n4 => ⟨fun z => ?_, fun n5 => ?_⟩⟩⟩⟩⟩
  · have k1 := kp (by rw [z]; decide)
    have q1 := ne (b := 113) z (by decide) (by decide) (by decide)
    have q2 := ne (b := 115) z (by decide) (by decide) (by decide)
    refine (s_X3_takeNumber G (hT.kq hk) e2 (by omega) 48 55 (by decide) (by decide) (by decide)).mono (fun v μ2 hp => ?_) (fun _ _ hp => hp)
    obtain ⟨p1, p2, p3, p4⟩ := hp
    have hN : pN t n c = stp t n (nI 49) (nI 51) (stp t n (nI 48) (nI 55) (false, c + 1)) := by unfold pN; rw [if_neg q1, if_neg q2, if_pos z, k1]
    have hA : pA t n c = dV t n (nI 48) (nI 55) (false, c + 1) := by unfold pA; rw [if_neg (fun w => w.elim q1 q2), if_pos z, k1]
    have hB : pB t n c = dV t n (nI 49) (nI 51) (stp t n (nI 48) (nI 55) (false, c + 1)) := by unfold pB; rw [if_neg q1, if_neg q2, if_pos z, k1]
    have b := stp_c (t := t) (n := n) (lo := nI 48) (hi := nI 55) (s := (false, c + 1))
    have hk2 : Kq μ μ2 := hk.trans (fun k b i s hk => p2 k b i s (by omega))
    refine ⟨_, p1, fun w => ?_, fun w => ?_⟩
    · have hq : (stp t n (nI 48) (nI 55) (false, c + 1)).1 = true := by cases hq : (stp t n (nI 48) (nI 55) (false, c + 1)).1 <;> simp_all
      rw [stp_bad hq] at hN
      exact PE_bad (by rw [hN, hq]) hk2 (by rw [hN]; exact p3)
    · have hq : (stp t n (nI 48) (nI 55) (false, c + 1)).1 = false := by cases hq : (stp t n (nI 48) (nI 55) (false, c + 1)).1 <;> simp_all
      have es : stp t n (nI 48) (nI 55) (false, c + 1) = (false, (stp t n (nI 48) (nI 55) (false, c + 1)).2) := Prod.ext hq rfl
      have p5 := p4 hq
      rw [← hA] at p5
      have hc6 := b.2.1 (show c + 1 ≤ n by omega)
      generalize (stp t n (nI 48) (nI 55) (false, c + 1)).2 = c6 at *
      rw [es] at hN hB
      exact tl_tgt G (by decide) (by decide) (by decide) hN hB hT hk2 p3 hc6 (by rw [p2 5 0 0 4 (by omega), e4]) p5
  · have k1 := kp (by rw [z]; decide)
    exact tl_gst G (by decide) (by decide) (by decide) (by unfold pN; rw [if_pos z, k1]) (by unfold pA; rw [if_pos (Or.inl z), k1]) (by unfold pB; rw [if_pos z, k1]) hT hk e2 (by omega) e4
  · have k1 := kp (by rw [z]; decide)
    exact tl_gst G (by decide) (by decide) (by decide) (by unfold pN; rw [if_neg n2, if_pos z, k1]) (by unfold pA; rw [if_pos (Or.inr z), k1]) (by unfold pB; rw [if_neg n2, if_pos z, k1]) hT hk e2 (by omega) e4
  · have k1 := kp (by rw [z]; decide)
    exact tl_num G (by decide) (by decide) (by decide) (by unfold pN; rw [if_neg n2, if_neg n3, if_neg n1, if_pos z, k1]) (by unfold pA; rw [if_neg (fun w => w.elim n2 n3), if_neg n1, if_pos z, k1]) hT hk e2 (by omega) e4 (fun w => w.elim n1 (fun w => w.elim n2 n3))
  · have k1 := kp (by rw [z]; decide)
    exact tl_num G (by decide) (by decide) (by decide) (by unfold pN; rw [if_neg n2, if_neg n3, if_neg n1, if_neg n4, k1]) (by unfold pA; rw [if_neg (fun w => w.elim n2 n3), if_neg n1, if_neg n4, k1]) hT hk e2 (by omega) e4 (fun w => w.elim n1 (fun w => w.elim n2 n3))
  · have hkd : kd (hr t n c) = false := by
      unfold kd
      rw [decide_eq_false n1, decide_eq_false n2, decide_eq_false n3, decide_eq_false n4, decide_eq_false n5]; rfl
    have e0 : p0 t n c = (true, c) := by unfold p0; rw [if_neg (by rw [hkd]; decide)]
    have eN : pN t n c = (true, c) := by
      unfold pN
      rw [if_neg n2, if_neg n3, if_neg n1, if_neg n4, e0]
      exact stp_bad rfl
    exact PE_bad (by rw [eN]) (kq_up (fun _ _ _ _ _ => rfl) (Or.inr (by decide))) (by rw [eN, up_sl (by decide)]; exact h2)
theorem s_X3_takeEntry (hT : Tc μ t n) (h2 : μ 5 0 0 2 = nI c) (hc : c ≤ n) : Con G mX3_takeEntry [.ref (zad G.1 5 0 0)] μ (PE t n c μ) noX := by
  have hn := hT.2.1
  apply wX3_takeEntry
  refine (s_X3_isHere G hT h2 hc (nI 103) (nI 116)).mono (fun v μ1 hp => ⟨_, hp.1, ?_⟩) (fun _ _ hp => hp)
  obtain ⟨-, rfl⟩ := hp
  refine ⟨fun z => ?_, fun z1 => ?_⟩
  · have hcn : c < n := by
      rw [Bool.and_eq_true, decide_eq_true_eq] at z
      exact z.1
    exact ⟨c, h2, by omega, te_chain G hT h2 hcn⟩
  refine (s_X3_isHere G hT h2 hc (nI 119) (nI 119)).mono (fun v μ2 hp => ⟨_, hp.1, ?_⟩) (fun _ _ hp => hp)
  obtain ⟨-, rfl⟩ := hp
  refine ⟨fun z2 => ?_, fun z => ?_⟩
  · refine ⟨fun w => absurd w (nI_ne (by decide)), fun _ => ⟨fun w => absurd w (nI_ne (by decide)), fun _ => ⟨fun w => absurd w (nI_ne (by decide)), fun _ => ⟨fun w => absurd w (nI_ne (by decide)), fun _ => ⟨fun w => absurd w (nI_ne (by decide)), fun _ => ?_⟩⟩⟩⟩⟩
    have hne : ∀ k, (k = 119 ∨ (103 ≤ k ∧ k ≤ 116)) → ¬ hr t n c = nI k := fun k hk e => by
      unfold hr at e
      by_cases hcn : c < n
      · rw [if_pos hcn] at e
        rw [e, decide_eq_true hcn, Bool.true_and] at z1 z2
        rcases hk with rfl | hk
        · exact absurd z2 (by decide)
        · have := (btw_n (x := nI k) (lo := 103) (hi := 116) (by decide) (by decide)).mpr ⟨k, hk.1, hk.2, rfl⟩
          rw [this] at z1; cases z1
      · rw [if_neg hcn] at e
        have nn : ∀ n, n < 127 → ¬ nI n = -1 := by decide +kernel
        exact nn k (by omega) e.symm
    have n1 := hne 103 (by omega)
    have n2 := hne 113 (by omega)
    have n3 := hne 115 (by omega)
    have n4 := hne 116 (by omega)
    have n5 := hne 119 (by omega)
    have hkd : kd (hr t n c) = false := by
      unfold kd
      rw [decide_eq_false n1, decide_eq_false n2, decide_eq_false n3, decide_eq_false n4, decide_eq_false n5]; rfl
    have e0 : p0 t n c = (true, c) := by unfold p0; rw [if_neg (by rw [hkd]; decide)]
    have eN : pN t n c = (true, c) := by
      unfold pN
      rw [if_neg n2, if_neg n3, if_neg n1, if_neg n4, e0]
      exact stp_bad rfl
    exact PE_bad (by rw [eN]) (kq_up (fun _ _ _ _ _ => rfl) (Or.inr (by decide))) (by rw [eN, up_sl (by decide)]; exact h2)
  · have hcn : c < n := by
      rw [Bool.and_eq_true, decide_eq_true_eq] at z
      exact z.1
    exact ⟨c, h2, by omega, te_chain G hT h2 hcn⟩
def CiP (t : Nat → Int32) (n : Nat) (μ : St) (v : Option Value) (μ9 : St) : Prop := (∀ k b i s, ¬ (k = 5 ∧ 2 ≤ s) → μ9 k b i s = μ k b i s) ∧ ((v = some (.int (bI true)) ∧ ∃ E, TxOk t n E ∧ μ9 5 0 0 3 = nI E) ∨ (v = some (.int (bI false)) ∧ ∃ E, TxBad t n E ∧ μ9 5 0 0 2 = nI (pS t n (pC t n E)).2))
theorem s_X3_isText (hT : Tc μ t n) : Con G mX3_isText [.ref (zad G.1 5 0 0)] μ (CiP t n μ) noX := by
  have hn := hT.2.1
  have T : ∀ d e (μ' : St), e + d = 20 → (∀ k b i s, ¬ (k = 5 ∧ 2 ≤ s) → μ' k b i s = μ k b i s) → μ' 5 0 0 3 = nI e → μ' 5 0 0 2 = nI (pC t n e) → (∀ e', e' < e → (pS t n (pC t n e')).1 = false) → (∀ e', 1 ≤ e' → e' ≤ e → pC t n e' < n) → VL G mX3_isText (CiP t n μ) noX 12 [(0, .ref (zad G.1 5 0 0)), (1, .int (nI e))] [] μ' := by
    intro d
    induction d with
    | zero =>
      intro e μ' he hk h3 h2 ok lt
      obtain rfl : e = 20 := by omega
      have a := pC_3 ok 20 (Nat.le_refl _)
      have b := lt 20 (by omega) (Nat.le_refl _)
      exact absurd a (by omega)
    | succ d ih =>
      intro e μ' he hk h3 h2 ok lt
      have hT' : Tc μ' t n := ⟨by rw [hk _ _ _ _ (by omega)]; exact hT.1, hn, fun j hj => by rw [hk _ _ _ _ (by omega)]; exact hT.2.2.1 j hj, hT.2.2.2⟩
      apply wX3_isText_12
      refine ⟨fun z => absurd ((nI_leI (by omega) (by omega)).mp z) (by omega), fun _ => ?_⟩
      refine (s_X3_takeEntry G hT' h2 (pC_c e)).mono (fun v μ1 hp => ?_) (fun _ _ hp => hp)
      obtain ⟨p1, p2, p3, p4⟩ := hp
      have hk1 : ∀ k b i s, ¬ (k = 5 ∧ 2 ≤ s) → μ1 k b i s = μ k b i s := fun k b i s h => by rw [p2 k b i s (by omega), hk k b i s h]
      have e1 : μ1 5 0 0 1 = nI n := by rw [hk1 _ _ _ _ (by omega)]; exact hT.1
      have e2 : μ1 5 0 0 2 = nI (pC t n (e + 1)) := p3
      have e3 : μ1 5 0 0 3 = nI e := by rw [p2 5 0 0 3 (by omega), h3]
      have b := pC_c (t := t) (n := n) (e + 1)
      have hku : ∀ k b i s, ¬ (k = 5 ∧ 2 ≤ s) → up μ1 5 0 0 3 ((μ1 5 0 0 3) + (nI 1)) k b i s = μ k b i s := fun k b i s h => by rw [show up μ1 5 0 0 3 ((μ1 5 0 0 3) + (nI 1)) k b i s = μ1 k b i s by unfold up; rw [if_neg (by omega)], hk1 k b i s h]
      have hu3 : up μ1 5 0 0 3 ((μ1 5 0 0 3) + (nI 1)) 5 0 0 3 = nI (e + 1) := by rw [up_self, e3, nI_add]
      refine ⟨_, p1, fun z => ?_, fun z => ?_⟩
      · have hq : (pS t n (pC t n e)).1 = false := by cases hq : (pS t n (pC t n e)).1 <;> simp_all
        have ok' : ∀ e', e' < e + 1 → (pS t n (pC t n e')).1 = false := fun e' he' => by
          rcases Nat.lt_or_ge e' e with w | w
          · exact ok e' w
          · obtain rfl : e' = e := by omega
            exact hq
        rw [e1, e2]
        refine ⟨fun w => ?_, fun w => ?_⟩
        · refine ih (e + 1) _ (by omega) hku hu3 (by rw [up_sl (by decide), e2]) ok' (fun e' h1 he' => ?_)
          rcases Nat.lt_or_ge e' (e + 1) with q | q
          · exact lt e' h1 (by omega)
          · obtain rfl : e' = e + 1 := by omega
            rcases Nat.lt_or_ge (pC t n (e + 1)) n with r | r
            · exact r
            · exact absurd (by congr 1; omega) w
        · have w' := nI_inj (by omega) (by omega) w
          exact ⟨hku, Or.inl ⟨rfl, e + 1, ⟨by omega, ok', fun e' h1 he' => lt e' h1 (by omega), w'⟩, hu3⟩⟩
      · have hq : (pS t n (pC t n e)).1 = true := by cases hq : (pS t n (pC t n e)).1 <;> simp_all
        exact ⟨hk1, Or.inr ⟨rfl, e, ⟨ok, fun e' h1 he' => lt e' h1 he', hq⟩, p3⟩⟩
  apply wX3_isText
  refine T 20 0 _ (by omega) (fun k b i s h => ?_) (up_self _ _ _ _ _ _) (by rw [up_sl (by decide), up_self]; rfl) (fun e h => absurd h (by omega)) (fun e h1 h => absurd h (by omega))
  unfold up
  rw [if_neg (by omega), if_neg (by omega)]
end CT2
