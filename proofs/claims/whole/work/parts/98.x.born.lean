/-! the whole as both constructors leave it -/
def D00 : DK := ((0, 0, fun _ => 0, fun _ => 0, fun _ => 0, fun _ => 0, fun _ => 0), (0, fun _ => 0, fun _ => 0, fun _ => 0), (0, fun _ _ => 0, fun _ => 0), (0, fun _ => 0, fun _ => 0, fun _ => 0, fun _ => 0, fun _ => 0))
def R00 : RS := (0, fun _ => 0, fun _ => 0, fun _ => 0)
def A00 : DA := (fun _ => 0, fun _ => 0, 1000201, 0, 1000201, 0)
theorem nv0 {p : Prop} {k : Nat} (h : k < 0) : p := absurd h (Nat.not_lt_zero k)
theorem glob0 {h : kx_Mem} (hB : Born EC [75, 66, 57, 48, 4] h) : Glob 0 h := by
  obtain ⟨hb, ⟨b1, hbd, hss, ⟨hE, -⟩, hl, hru⟩, hf, hN, hrm⟩ := hB
  have fp : ∀ a j, ¬ (89 ≤ a ∧ a ≤ 103) → ¬ FpA a j := fun a j q => by unfold FpA FpV; omega
  have e : ∀ a j, a < 154 → ¬ (89 ≤ a ∧ a ≤ 103) → h.1 a j = hb.1 a j := fun a j q1 q2 => (hf.2 a (by omega)).1 j (fp a j q2)
  have zz : ∀ a j, a < 154 → ¬ (89 ≤ a ∧ a ≤ 103) → ¬ ((a = 84 ∧ (j = 12 ∨ j = 38)) ∨ (a = 0 ∧ j = 12) ∨ (a = 3 ∧ j = 4) ∨ (4 ≤ a ∧ a ≤ 12) ∨ (48 ≤ a ∧ a ≤ 83)) → h.1 a j = nI 0 := fun a j q1 q2 q3 => by
    rw [e a j q1 q2]
    rcases hE a j with ⟨h1, h2, -⟩ | ⟨h1, h2, -⟩ | ⟨-, ⟨h1, h2, -⟩ | ⟨h1, h2, -⟩ | ⟨-, -, h1 | h1 | h1⟩⟩
    · exact absurd (Or.inl ⟨h1, Or.inl h2⟩) q3
    · exact absurd (Or.inl ⟨h1, Or.inr h2⟩) q3
    · exact absurd (Or.inr (Or.inl ⟨h1, h2⟩)) q3
    · exact absurd (Or.inr (Or.inr (Or.inl ⟨h1, h2⟩))) q3
    · exact absurd (Or.inr (Or.inr (Or.inr (Or.inl h1)))) q3
    · exact absurd (Or.inr (Or.inr (Or.inr (Or.inr h1)))) q3
    · exact h1
  have e12 : h.1 0 12 = nI 1 := by
    rw [e 0 12 (by decide) (by decide)]
    rcases hE 0 12 with ⟨h1, -⟩ | ⟨h1, -⟩ | ⟨-, ⟨-, -, h1⟩ | ⟨h1, -⟩ | ⟨h1, -⟩⟩
    · omega
    · omega
    · exact h1
    · omega
    · exact absurd ⟨rfl, rfl⟩ h1
  have e34 : h.1 3 4 = -1 := by
    rw [e 3 4 (by decide) (by decide)]
    rcases hE 3 4 with ⟨h1, -⟩ | ⟨h1, -⟩ | ⟨-, ⟨h1, -⟩ | ⟨-, -, h1⟩ | ⟨-, h1, -⟩⟩
    · omega
    · omega
    · omega
    · exact h1
    · exact absurd ⟨rfl, rfl⟩ h1
  have m12 : h.1 84 12 = -1 := by
    rw [e 84 12 (by decide) (by decide)]
    rcases hE 84 12 with ⟨-, -, h1⟩ | ⟨-, h1, -⟩ | ⟨h1, -⟩
    · exact h1
    · omega
    · exact absurd ⟨rfl, Or.inl rfl⟩ h1
  have m38 : h.1 84 38 = nI 1 := by
    rw [e 84 38 (by decide) (by decide)]
    rcases hE 84 38 with ⟨-, h1, -⟩ | ⟨-, -, h1⟩ | ⟨h1, -⟩
    · omega
    · exact h1
    · exact absurd ⟨rfl, Or.inr rfl⟩ h1
  have ss : ∀ q ∈ rM ++ rC9, h.2.2.1 q.1 q.2.1 = some q.2.2 := fun q hq => by
    rw [(hf.2 q.1 (by have := hbd.1 q hq; omega)).2.2.1 q.2.1]
    exact hss.1 q hq
  have tt : ∀ q ∈ tM ++ tC, h.2.2.2.1 q.1 = (q.2.1, q.2.2) := fun q hq => by
    rw [(hf.2 q.1 (by have := hbd.2 q hq; omega)).2.2.2]
    exact hss.2 q hq
  have hSC : SC h := ⟨fun q hq => ss q (List.mem_append_right _ (List.mem_cons_of_mem _ (List.mem_cons_of_mem _ (List.mem_cons_of_mem _ (List.mem_cons_of_mem _ (List.mem_cons_of_mem _ (List.mem_cons_of_mem _ (List.mem_cons_of_mem _ hq)))))))), fun q hq => tt q (List.mem_append_right _ hq)⟩
  have hSM : SM h := ⟨fun q hq => ss q (List.mem_append_left _ hq), fun q hq => tt q (List.mem_append_left _ hq)⟩
  have r9 : ∀ (i : Nat) (q : Nat × Nat × Nat), rC9[i]? = some q → h.2.2.1 q.1 q.2.1 = some q.2.2 := fun i q hq => ss q (List.mem_append_right _ (List.mem_of_getElem? hq))
  have ru : ∀ a, isRuA a → RUc ru0 a h := fun a ha => by
    have hm : a ∈ [75, 66, 57, 48, 4] := by
      rcases ha with rfl | rfl | rfl | rfl | rfl <;> decide
    have h8 : a + 8 < 84 := by unfold isRuA at ha; omega
    exact (hru a hm).2.eq (fun x j q1 q2 => e x j (by omega) (by omega)) (fun x j q1 q2 => (hf.2 x (by omega)).2.1 j)
  have hV : CVs (fun u => 48 + 9 * u) 4 (fun _ => ru0) h := by
    refine ⟨r9 0 _ rfl, Or.inl rfl, fun u hu => ?_⟩
    have h13 : h.2.2.1 13 u = some (48 + 9 * u) := by
      rcases (show u = 0 ∨ u = 1 ∨ u = 2 ∨ u = 3 by omega) with rfl | rfl | rfl | rfl
      · exact r9 1 _ rfl
      · exact r9 2 _ rfl
      · exact r9 3 _ rfl
      · exact r9 4 _ rfl
    have ha : isRuA (48 + 9 * u) := by unfold isRuA; omega
    exact ⟨h13, ha, by show 48 + 9 * u ≠ 4; omega, ru0_ok, ru _ ha, fun u' h1 h2 => by show 48 + 9 * u' ≠ 48 + 9 * u; omega⟩
  have ls : ∀ o, o = 40 ∨ o = 41 → LSc o 0 1000201 0 (fun _ => 0) h := fun o ho => by
    refine ⟨zz o 2 (by omega) (by omega) (by omega), ?_, Or.inr ⟨rfl, rfl, rfl⟩, Nat.le_refl _, by decide, fun c hc => nv0 hc⟩
    rcases ho with rfl | rfl
    · exact r9 5 _ rfl
    · exact r9 6 _ rfl
  have bF : bP False = nI 0 := by unfold bP; exact if_neg id
  have fz : ∀ a, a < 154 → ¬ (89 ≤ a ∧ a ≤ 103) → ¬ (a = 84 ∨ a = 0 ∨ a = 3 ∨ (4 ≤ a ∧ a ≤ 12) ∨ (48 ≤ a ∧ a ≤ 83)) → h.1 a = fun _ => nI 0 := fun a q1 q2 q3 => by
    funext j
    exact zz a j q1 q2 (by omega)
  have gi : gI D00 R00 (fun _ => ru0) 0 0 0 1 (fun _ => 0) 0 0 0 (fun _ => nI 0) 0 (fun _ => 0) 0 0 h.2.2.2.2 := by
    refine ⟨⟨⟨by decide, by decide, fun k hk => nv0 hk⟩, ⟨by decide, fun k hk => nv0 hk⟩, ⟨by decide, fun k hk => nv0 hk⟩, ⟨by decide, fun k hk => nv0 hk⟩⟩, ⟨by decide, fun k hk => nv0 hk⟩, fun _ _ => ⟨ru0_ok, ru0_set⟩, ⟨by decide, by decide, by decide, by decide⟩, fun _ => (show (0 : Int32).toInt8.toInt32 = 0 by decide), ⟨by decide, Nat.le_refl _, fun k hk => nv0 hk⟩, ⟨fun k hk => nv0 hk, fun k hk => nv0 hk⟩, ⟨⟨by decide, fun a b ha => nv0 ha, fun a ha => nv0 ha⟩, Nat.le_refl _, by decide⟩, by omega, by omega, by decide⟩
  have gc : gC D00 A00 (fun _ => False) R00 (fun u => 48 + 9 * u) 4 (fun _ => ru0) 0 0 0 1 (fun _ => 0) 0 (0, 0, fun _ => 0) 0 0 (fun _ => nI 0) (nI 0) (-1) h := by
    refine ⟨hSC, ⟨⟨⟨zz 14 0 (by decide) (by decide) (by decide), zz 14 3 (by decide) (by decide) (by decide), fun k hk => nv0 hk⟩, ⟨zz 34 0 (by decide) (by decide) (by decide), fun k hk => nv0 hk⟩, ls 40 (Or.inl rfl), ls 41 (Or.inr rfl), ⟨fun a b ha => nv0 ha, fun c hc => nv0 hc⟩, fun k hk => nv0 hk⟩, ⟨by omega, Or.inr ⟨rfl, rfl, rfl⟩, Or.inr ⟨rfl, rfl, rfl⟩, fun c hc => nv0 hc, fun c hc => nv0 hc, fun _ => rfl⟩⟩, fun q _ => (zz 15 q (by decide) (by decide) (by omega)).trans bF.symm, ⟨zz 30 0 (by decide) (by decide) (by decide), fun k hk => nv0 hk⟩, hV, ⟨zz 0 10 (by decide) (by decide) (by decide), zz 0 9 (by decide) (by decide) (by decide), zz 0 11 (by decide) (by decide) (by decide), e12⟩, ⟨zz 1 1 (by decide) (by decide) (by decide), by decide, fun k hk => nv0 hk⟩, ⟨⟨by decide, by decide⟩, zz 42 3 (by decide) (by decide) (by decide), zz 42 2 (by decide) (by decide) (by decide), fun k hk => nv0 hk⟩, ⟨zz 45 2 (by decide) (by decide) (by decide), zz 45 3 (by decide) (by decide) (by decide), fz 16 (by decide) (by decide) (by decide)⟩, zz 3 3 (by decide) (by decide) (by decide), e34⟩
  have gm : gM D00 (fun _ => False) R00 (fun _ => ru0) 0 0 0 1 (fun _ => 0) 0 (0, 0, fun _ => 0) 0 0 (fun _ => nI 0) (nI 0) (-1) 0 (fun _ => 0) h := by
    refine ⟨hSM, ⟨⟨zz 84 33 (by decide) (by decide) (by decide), zz 84 34 (by decide) (by decide) (by decide), fun k hk => nv0 hk⟩, ⟨zz 84 50 (by decide) (by decide) (by decide), fun k hk => nv0 hk⟩, ⟨zz 84 51 (by decide) (by decide) (by decide), fun k hk => nv0 hk⟩, ⟨zz 84 52 (by decide) (by decide) (by decide), fun k hk => nv0 hk⟩⟩, fun c _ j j1 j2 j3 => zz (122 + j) c (by omega) (by omega) (by omega), fun q _ => (zz 117 q (by decide) (by decide) (by omega)).trans bF.symm, ⟨zz 84 35 (by decide) (by decide) (by decide), fun k hk => nv0 hk⟩, fun v hv => hrm v (by omega) _ _, ⟨zz 84 31 (by decide) (by decide) (by decide), zz 84 36 (by decide) (by decide) (by decide), zz 84 37 (by decide) (by decide) (by decide), m38⟩, ⟨zz 84 5 (by decide) (by decide) (by decide), by decide, fun k hk => nv0 hk⟩, ⟨⟨by decide, by decide⟩, zz 84 86 (by decide) (by decide) (by decide), zz 84 85 (by decide) (by decide) (by decide), fun k hk => nv0 hk⟩, ⟨zz 84 87 (by decide) (by decide) (by decide), zz 84 88 (by decide) (by decide) (by decide), fz 116 (by decide) (by decide) (by decide)⟩, ⟨zz 84 11 (by decide) (by decide) (by decide), m12⟩, zz 84 2 (by decide) (by decide) (by decide), fun k hk => nv0 hk⟩
  exact ⟨_, _, _, _, _, _, _, _, _, _, _, _, _, _, _, _, _, _, _, _, _, _, gi, gc, gm⟩
