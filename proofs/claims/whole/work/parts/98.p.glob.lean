/-! both sides in one word: what class and reference hold; pieces and their frames -/
theorem kx_Sp.imp {l : Launch} {g : kx_G} {μ : kx_M} {as : List Value} {h : kx_Mem} {d mc ms : Nat} {Q Q' : Option Value → kx_Mem → Prop} (k : kx_Sp l g μ as h d mc ms Q) (hq : ∀ v h', Q v h' → Q' v h') : kx_Sp l g μ as h d mc ms Q' := by
  unfold kx_Sp Met MetFree at *
  intro p e ha hc hk s m args below hf happ hP hK
  obtain ⟨n, o, h1, h2, h3, ⟨v, h', e1, e2, e3⟩, hL⟩ := k p e ha hc hk s m args below hf happ hP hK
  exact ⟨n, o, h1, h2, h3, ⟨v, h', e1, e2, hq v h' e3⟩, hL⟩
theorem kw_Sp.imp {l : Launch} {g : kx_G} {μ : kx_M} {hh : List (Nat × Nat × Nat × Nat)} {as : List Value} {h : kx_Mem} {d mc ms : Nat} {Q Q' : Option Value → kx_Mem → Prop} (k : kw_Sp l g μ hh as h d mc ms Q) (hq : ∀ v h', Q v h' → Q' v h') : kw_Sp l g μ hh as h d mc ms Q' := by
  unfold kw_Sp Met MetFree at *
  intro p e ha hc hk s m args below hf happ hP hK
  obtain ⟨n, o, h1, h2, h3, ⟨v, h', e1, e2, e3⟩, hL⟩ := k p e ha hc hk s m args below hf happ hP hK
  exact ⟨n, o, h1, h2, h3, ⟨v, h', e1, e2, hq v h' e3⟩, hL⟩
def nvr (_ _ : Nat) : Prop := False
def pC (a _j : Nat) : Prop := a < 84 ∨ 154 ≤ a
def pM (a _j : Nat) : Prop := 84 ≤ a ∧ a < 154
def P15 (P : Nat → Nat → Prop) (a j : Nat) : Prop := P a j ∨ 154 ≤ a
def Fone (x y a j : Nat) : Prop := a = x ∧ j = y
def Ftwo (x y y' a j : Nat) : Prop := a = x ∧ (j = y ∨ j = y')
def Fal (x a _j : Nat) : Prop := a = x
theorem kx_Gw.p {P L Z : Nat → Nat → Prop} {h h' : kx_Mem} (k : kx_Gw P L Z h h') (hN : 154 ≤ h.2.2.2.2) {a j : Nat} (ha : a < 154) (hn : ¬ P a j) : h'.1 a j = h.1 a j := ((k.2 a (by omega)).2 j).1 hn
theorem kx_Gw.l {P L Z : Nat → Nat → Prop} {h h' : kx_Mem} (k : kx_Gw P L Z h h') (hN : 154 ≤ h.2.2.2.2) {a j : Nat} (ha : a < 154) (hn : ¬ L a j) : h'.2.1 a j = h.2.1 a j := ((k.2 a (by omega)).2 j).2.1 hn
theorem kx_Gw.z {P L Z : Nat → Nat → Prop} {h h' : kx_Mem} (k : kx_Gw P L Z h h') (hN : 154 ≤ h.2.2.2.2) {a j : Nat} (ha : a < 154) (hn : ¬ Z a j) : h'.2.2.1 a j = h.2.2.1 a j := ((k.2 a (by omega)).2 j).2.2 hn
theorem kx_Gw.c15 {P L Z : Nat → Nat → Prop} {h h' : kx_Mem} (k : kx_Gw P L Z h h') (hN : 154 ≤ h.2.2.2.2) : kx_Fc (P15 P) h (h'.1, h.2) := ⟨rfl, fun a j hn => k.p hN (by unfold P15 at hn; omega) (fun z => hn (Or.inl z))⟩
theorem kx_Fc.gw {P Z : Nat → Nat → Prop} {h h' : kx_Mem} (a : kx_Fc P h h') : kx_Gw P nvr Z h h' := (a.g (L := nvr)).gw
theorem kx_Fn.gw {P : Nat → Nat → Prop} {h h' : kx_Mem} (a : kx_Fn P h h') : kx_Gw P nvr nvr h h' := ⟨a.1, fun x hx => ⟨(a.2 x hx).2.2.2, fun j => ⟨fun hj => (a.2 x hx).1 j hj, fun _ => (a.2 x hx).2.1 j, fun _ => (a.2 x hx).2.2.1 j⟩⟩⟩
theorem kx_Fr.gw {X : List Nat} {h h' : kx_Mem} (a : kx_Fr X h h') : kx_Gw (fun x _ => x ∈ X) nvr nvr h h' := ⟨by rw [a.1]; exact Nat.le_refl _, fun x hx => ⟨by rw [a.1], fun j => ⟨fun hj => by rw [a.2 x hj], fun _ => by rw [a.1], fun _ => by rw [a.1]⟩⟩⟩
theorem kx_Fq.gw {h h' : kx_Mem} (a : kx_Fq h h') : kx_Gw (fun x _ => FrQ x) (fun x _ => FrQ x) (fun x j => (x = 3 ∧ j = 1) ∨ x = 13) h h' := ⟨by rw [a.2.2.2]; exact Nat.le_refl _, fun x hx => ⟨by rw [a.2.2.2], fun j => ⟨fun hj => a.1 x j hj, fun hj => a.2.1 x j hj, fun hj => a.2.2.1 x j hj⟩⟩⟩
theorem rC_84 : ∀ q ∈ rC, q.1 < 84 := by
  have h : rC.all (fun q => decide (q.1 < 84)) = true := by decide +kernel
  intro q hq
  exact of_decide_eq_true (List.all_eq_true.mp h q hq)
theorem tC_84 : ∀ q ∈ tC, q.1 < 84 := by
  have h : tC.all (fun q => decide (q.1 < 84)) = true := by decide +kernel
  intro q hq
  exact of_decide_eq_true (List.all_eq_true.mp h q hq)
theorem rM_84 : ∀ q ∈ rM, 84 ≤ q.1 ∧ q.1 < 154 := by
  have h : rM.all (fun q => decide (84 ≤ q.1 ∧ q.1 < 154)) = true := by decide +kernel
  intro q hq
  exact of_decide_eq_true (List.all_eq_true.mp h q hq)
theorem tM_84 : ∀ q ∈ tM, 84 ≤ q.1 ∧ q.1 < 154 := by
  have h : tM.all (fun q => decide (84 ≤ q.1 ∧ q.1 < 154)) = true := by decide +kernel
  intro q hq
  exact of_decide_eq_true (List.all_eq_true.mp h q hq)
/-! the class's pieces -/
def cU (U : Nat → Prop) (h : kx_Mem) : Prop := ∀ q, q < 60 → h.1 15 q = bP (U q)
def cI (u td s1 s2 : Nat) (h : kx_Mem) : Prop := h.1 0 10 = nI u ∧ h.1 0 9 = nI td ∧ h.1 0 11 = nI s1 ∧ h.1 0 12 = nI s2
def cF (M K : Nat) (pu : Nat → Int32) (h : kx_Mem) : Prop := h.1 45 2 = nI M ∧ h.1 45 3 = nI K ∧ h.1 16 = pu
def cQ (f0 f1 : Int32) (h : kx_Mem) : Prop := h.1 3 3 = f0 ∧ h.1 3 4 = f1
def mU (U : Nat → Prop) (h : kx_Mem) : Prop := ∀ q, q < 60 → h.1 117 q = bP (U q)
def mI (u td s1 s2 : Nat) (h : kx_Mem) : Prop := h.1 84 31 = nI u ∧ h.1 84 36 = nI td ∧ h.1 84 37 = nI s1 ∧ h.1 84 38 = nI s2
def mF (M K : Nat) (pu : Nat → Int32) (h : kx_Mem) : Prop := h.1 84 87 = nI M ∧ h.1 84 88 = nI K ∧ h.1 116 = pu
def mQ (f0 f1 : Int32) (h : kx_Mem) : Prop := h.1 84 11 = f0 ∧ h.1 84 12 = f1
def mT (b : Nat → Int32) (n : Nat) (h : kx_Mem) : Prop := h.1 84 5 = nI n ∧ n ≤ 600 ∧ ∀ k, k < n → h.1 88 k = b k
def mV (V : Nat → RU) (nw : Nat) (T : Nat → Nat) (h : kx_Mem) : Prop := ∀ v, v < 4 → RUm (V v) v nw T h
section PC
variable {P L Z : Nat → Nat → Prop} {h h' : kx_Mem}
theorem pcS (hs : SC h) (k : kx_Gw P L Z h h') (hN : 154 ≤ h.2.2.2.2) (hZ : ∀ q ∈ rC, ¬ Z q.1 q.2.1) : SC h' := kx_SS.gw hs k hN (fun q hq => ⟨by have := rC_84 q hq; omega, hZ q hq⟩) (fun q hq => by have := tC_84 q hq; omega)
theorem pcS0 (hs : SC h) (k : kx_Gw P L nvr h h') (hN : 154 ≤ h.2.2.2.2) : SC h' := pcS hs k hN (fun _ _ => id)
theorem pcD {D : DK} {A : DA} (hp : DKc D A h ∧ DAx D A h) (k : kx_Gw P L nvr h h') (hP : ∀ a j, (a = 14 ∨ (17 ≤ a ∧ a ≤ 21) ∨ (34 ≤ a ∧ a ≤ 37) ∨ a = 40 ∨ a = 41 ∨ 154 ≤ a) → ¬ P a j ∧ ¬ L a j) : DKc D A h' ∧ DAx D A h' := ⟨hp.1.gw hp.2 k (fun a j q => ⟨(hP a j q).1, (hP a j q).2, id⟩), hp.2.gw k⟩
theorem pcU {U : Nat → Prop} (hp : cU U h) (k : kx_Gw P L Z h h') (hN : 154 ≤ h.2.2.2.2) (hP : ∀ a j, a = 15 → ¬ P a j) : cU U h' := fun q hq => (k.p hN (by decide) (hP 15 q rfl)).trans (hp q hq)
theorem pcR {s : RS} (hp : RSc s h) (k : kx_Gw P L Z h h') (hN : 154 ≤ h.2.2.2.2) (hP : ∀ a j, (30 ≤ a ∧ a ≤ 33) → ¬ P a j) : RSc s h' := ⟨(k.p hN (by decide) (hP 30 0 (by omega))).trans hp.1, fun q hq => ⟨(k.p hN (by decide) (hP 31 q (by omega))).trans (hp.2 q hq).1, (k.p hN (by decide) (hP 32 q (by omega))).trans (hp.2 q hq).2.1, (k.p hN (by decide) (hP 33 q (by omega))).trans (hp.2 q hq).2.2⟩⟩
theorem pcV {A : Nat → Nat} {D : Nat} {V : Nat → RU} (hp : CVs A D V h) (k : kx_Gw P L Z h h') (hN : 154 ≤ h.2.2.2.2) (hP : ∀ a j, ((4 ≤ a ∧ a ≤ 12) ∨ (48 ≤ a ∧ a ≤ 83)) → ¬ P a j ∧ ¬ L a j) (hZ : ¬ Z 3 1 ∧ ∀ j, ¬ Z 13 j) : CVs A D V h' := by
  refine ⟨(k.z hN (by decide) hZ.1).trans hp.1, hp.2.1, fun u hu => ?_⟩
  obtain ⟨h1, h2, h3, h4, h5, h6⟩ := hp.2.2 u hu
  have hr : ∀ x, A u ≤ x → x ≤ A u + 8 → x < 154 ∧ ((4 ≤ x ∧ x ≤ 12) ∨ (48 ≤ x ∧ x ≤ 83)) := fun x q1 q2 => by unfold isRuA at h2; omega
  exact ⟨(k.z hN (by decide) (hZ.2 u)).trans h1, h2, h3, h4, h5.eq (fun x j q1 q2 => k.p hN (hr x q1 q2).1 (hP x j (hr x q1 q2).2).1) (fun x j q1 q2 => k.l hN (hr x q1 q2).1 (hP x j (hr x q1 q2).2).2), h6⟩
theorem pcI {u td s1 s2 : Nat} (hp : cI u td s1 s2 h) (k : kx_Gw P L Z h h') (hN : 154 ≤ h.2.2.2.2) (hP : ∀ a j, (a = 0 ∧ 9 ≤ j ∧ j ≤ 12) → ¬ P a j) : cI u td s1 s2 h' := ⟨(k.p hN (by decide) (hP 0 10 (by omega))).trans hp.1, (k.p hN (by decide) (hP 0 9 (by omega))).trans hp.2.1, (k.p hN (by decide) (hP 0 11 (by omega))).trans hp.2.2.1, (k.p hN (by decide) (hP 0 12 (by omega))).trans hp.2.2.2⟩
theorem pcT {b : Nat → Int32} {n : Nat} (hp : TapC b n h) (k : kx_Gw P L Z h h') (hN : 154 ≤ h.2.2.2.2) (hP : ∀ a j, ((a = 1 ∧ j = 1) ∨ a = 2) → ¬ P a j) : TapC b n h' := ⟨(k.p hN (by decide) (hP 1 1 (by omega))).trans hp.1, hp.2.1, fun q hq => (k.p hN (by decide) (hP 2 q (by omega))).trans (hp.2.2 q hq)⟩
theorem pcB {B : TB} (hp : TBc B h) (k : kx_Gw P L Z h h') (hN : 154 ≤ h.2.2.2.2) (hP : ∀ a j, ((a = 42 ∧ 2 ≤ j ∧ j ≤ 3) ∨ a = 44) → ¬ P a j) : TBc B h' := ⟨hp.1, (k.p hN (by decide) (hP 42 3 (by omega))).trans hp.2.1, (k.p hN (by decide) (hP 42 2 (by omega))).trans hp.2.2.1, fun q hq => (k.p hN (by decide) (hP 44 q (by omega))).trans (hp.2.2.2 q hq)⟩
theorem pcF {M K : Nat} {pu : Nat → Int32} (hp : cF M K pu h) (k : kx_Gw P L Z h h') (hN : 154 ≤ h.2.2.2.2) (hP : ∀ a j, ((a = 45 ∧ 2 ≤ j ∧ j ≤ 3) ∨ a = 16) → ¬ P a j) : cF M K pu h' := ⟨(k.p hN (by decide) (hP 45 2 (by omega))).trans hp.1, (k.p hN (by decide) (hP 45 3 (by omega))).trans hp.2.1, by rw [← hp.2.2]; funext j; exact k.p hN (by decide) (hP 16 j (by omega))⟩
theorem pcQ {f0 f1 : Int32} (hp : cQ f0 f1 h) (k : kx_Gw P L Z h h') (hN : 154 ≤ h.2.2.2.2) (hP : ∀ a j, (a = 3 ∧ 3 ≤ j ∧ j ≤ 4) → ¬ P a j) : cQ f0 f1 h' := ⟨(k.p hN (by decide) (hP 3 3 (by omega))).trans hp.1, (k.p hN (by decide) (hP 3 4 (by omega))).trans hp.2⟩
/-! the reference's pieces -/
theorem pmS (hs : SM h) (k : kx_Gw P L Z h h') (hN : 154 ≤ h.2.2.2.2) (hZ : ∀ a j, 84 ≤ a → a < 154 → ¬ Z a j) : SM h' := kx_SS.gw hs k hN (fun q hq => ⟨(rM_84 q hq).2, hZ _ _ (rM_84 q hq).1 (rM_84 q hq).2⟩) (fun q hq => (tM_84 q hq).2)
theorem pmD {D : DK} {nw : Nat} {T : Nat → Nat} (hp : DKm D nw T h) (k : kx_Gw P L Z h h') (hN : 154 ≤ h.2.2.2.2) (hP : ∀ a j, (a = 84 ∧ ((33 ≤ j ∧ j ≤ 34) ∨ (50 ≤ j ∧ j ≤ 52))) ∨ (107 ≤ a ∧ a ≤ 112) ∨ (118 ≤ a ∧ a ≤ 120) ∨ (122 ≤ a ∧ a ≤ 143) → ¬ P a j) : DKm D nw T h' := hp.fx (k.c15 hN).2 (fun a j q z => by rcases z with z | z; exact hP a j q z; omega)
theorem pmZ {n : Nat} (hp : ZRm n h) (k : kx_Gw P L Z h h') (hN : 154 ≤ h.2.2.2.2) (hP : ∀ a j, 129 ≤ a ∧ a ≤ 138 ∧ n ≤ j → ¬ P a j) : ZRm n h' := hp.f (k.c15 hN).2 (fun a j q1 q2 q3 z => by rcases z with z | z; exact hP a j ⟨q1, q2, q3⟩ z; omega)
theorem pmU {U : Nat → Prop} (hp : mU U h) (k : kx_Gw P L Z h h') (hN : 154 ≤ h.2.2.2.2) (hP : ∀ a j, a = 117 → ¬ P a j) : mU U h' := fun q hq => (k.p hN (by decide) (hP 117 q rfl)).trans (hp q hq)
theorem pmR {s : RS} (hp : RSm s h) (k : kx_Gw P L Z h h') (hN : 154 ≤ h.2.2.2.2) (hP : ∀ a j, (a = 84 ∧ j = 35) ∨ (113 ≤ a ∧ a ≤ 115) → ¬ P a j) : RSm s h' := hp.fx (k.c15 hN).2 (fun a j q z => by rcases z with z | z; exact hP a j q z; omega)
theorem pmV {V : Nat → RU} {nw : Nat} {T : Nat → Nat} (hp : mV V nw T h) (k : kx_Gw P L Z h h') (hN : 154 ≤ h.2.2.2.2) (hP : ∀ a j, 89 ≤ a ∧ a ≤ 103 → ¬ P a j) : mV V nw T h' := fun v hv => by
  have q : RUm (V v) v nw T (h'.1, h.2) := (hp v hv).fm (P := P15 P) (k.c15 hN) (fun a j q1 q2 z => by rcases z with z | z; exact hP a j ⟨q1, q2⟩ z; omega)
  exact q
theorem pmI {u td s1 s2 : Nat} (hp : mI u td s1 s2 h) (k : kx_Gw P L Z h h') (hN : 154 ≤ h.2.2.2.2) (hP : ∀ a j, (a = 84 ∧ (j = 31 ∨ (36 ≤ j ∧ j ≤ 38))) → ¬ P a j) : mI u td s1 s2 h' := ⟨(k.p hN (by decide) (hP 84 31 (by omega))).trans hp.1, (k.p hN (by decide) (hP 84 36 (by omega))).trans hp.2.1, (k.p hN (by decide) (hP 84 37 (by omega))).trans hp.2.2.1, (k.p hN (by decide) (hP 84 38 (by omega))).trans hp.2.2.2⟩
theorem pmT {b : Nat → Int32} {n : Nat} (hp : mT b n h) (k : kx_Gw P L Z h h') (hN : 154 ≤ h.2.2.2.2) (hP : ∀ a j, ((a = 84 ∧ j = 5) ∨ a = 88) → ¬ P a j) : mT b n h' := ⟨(k.p hN (by decide) (hP 84 5 (by omega))).trans hp.1, hp.2.1, fun q hq => (k.p hN (by decide) (hP 88 q (by omega))).trans (hp.2.2 q hq)⟩
theorem pmB {B : TB} (hp : TBm B h) (k : kx_Gw P L Z h h') (hN : 154 ≤ h.2.2.2.2) (hP : ∀ a j, ((a = 84 ∧ 85 ≤ j ∧ j ≤ 86) ∨ a = 147) → ¬ P a j) : TBm B h' := ⟨hp.1, (k.p hN (by decide) (hP 84 86 (by omega))).trans hp.2.1, (k.p hN (by decide) (hP 84 85 (by omega))).trans hp.2.2.1, fun q hq => (k.p hN (by decide) (hP 147 q (by omega))).trans (hp.2.2.2 q hq)⟩
theorem pmF {M K : Nat} {pu : Nat → Int32} (hp : mF M K pu h) (k : kx_Gw P L Z h h') (hN : 154 ≤ h.2.2.2.2) (hP : ∀ a j, ((a = 84 ∧ 87 ≤ j ∧ j ≤ 88) ∨ a = 116) → ¬ P a j) : mF M K pu h' := ⟨(k.p hN (by decide) (hP 84 87 (by omega))).trans hp.1, (k.p hN (by decide) (hP 84 88 (by omega))).trans hp.2.1, by rw [← hp.2.2]; funext j; exact k.p hN (by decide) (hP 116 j (by omega))⟩
theorem pmQ {f0 f1 : Int32} (hp : mQ f0 f1 h) (k : kx_Gw P L Z h h') (hN : 154 ≤ h.2.2.2.2) (hP : ∀ a j, (a = 84 ∧ 11 ≤ j ∧ j ≤ 12) → ¬ P a j) : mQ f0 f1 h' := ⟨(k.p hN (by decide) (hP 84 11 (by omega))).trans hp.1, (k.p hN (by decide) (hP 84 12 (by omega))).trans hp.2⟩
theorem pmW {nw : Nat} {T : Nat → Nat} (hp : WTm nw T h) (k : kx_Gw P L Z h h') (hN : 154 ≤ h.2.2.2.2) (hP : ∀ a j, ((a = 84 ∧ j = 2) ∨ a = 85 ∨ a = 86) → ¬ P a j) : WTm nw T h' := by
  have q : WTm nw T (h'.1, h.2) := hp.fc (P := P15 P) (k.c15 hN) (fun z => by rcases z with z | z; exact hP 84 2 (by omega) z; omega) (fun j => ⟨fun z => by rcases z with z | z; exact hP 85 j (by omega) z; omega, fun z => by rcases z with z | z; exact hP 86 j (by omega) z; omega⟩)
  exact q
end PC
/-! the whole -/
def gC (D : DK) (A : DA) (U : Nat → Prop) (rs : RS) (AV : Nat → Nat) (DV : Nat) (V : Nat → RU) (u td s1 s2 : Nat) (b : Nat → Int32) (n : Nat) (B : TB) (M K : Nat) (pu : Nat → Int32) (f0 f1 : Int32) (h : kx_Mem) : Prop :=
  SC h ∧ (DKc D A h ∧ DAx D A h) ∧ cU U h ∧ RSc rs h ∧ CVs AV DV V h ∧ cI u td s1 s2 h ∧ TapC b n h ∧ TBc B h ∧ cF M K pu h ∧ cQ f0 f1 h
def gM (D : DK) (U : Nat → Prop) (rs : RS) (V : Nat → RU) (u td s1 s2 : Nat) (b : Nat → Int32) (n : Nat) (B : TB) (M K : Nat) (pu : Nat → Int32) (f0 f1 : Int32) (nw : Nat) (T : Nat → Nat) (h : kx_Mem) : Prop :=
  SM h ∧ DKm D nw T h ∧ ZRm D.2.2.1.1 h ∧ mU U h ∧ RSm rs h ∧ mV V nw T h ∧ mI u td s1 s2 h ∧ mT b n h ∧ TBm B h ∧ mF M K pu h ∧ mQ f0 f1 h ∧ WTm nw T h
def gI (D : DK) (rs : RS) (V : Nat → RU) (u td s1 s2 : Nat) (b : Nat → Int32) (n M K : Nat) (pu : Nat → Int32) (nw : Nat) (T : Nat → Nat) (z k N : Nat) : Prop :=
  DKok D ∧ RSok rs ∧ (∀ v, v < 4 → RUok (V v) ∧ RSet (V v)) ∧ (u < 4 ∧ td ≤ 1999 ∧ s1 ≤ 3 ∧ s2 ≤ 3) ∧ BY b ∧ FnI (D, K, pu) M ∧ ((∀ c, c < D.2.2.1.1 → cN D.2.2.1 c 5 ≤ td) ∧ ∀ q, q < D.2.1.1 → D.2.1.2.1 q ≤ td) ∧ (WTok nw T ∧ wz nw T ≤ z ∧ 16 * z + 3 * n ≤ 60 * k) ∧ (154 ≤ N ∧ N ≤ 159 + 3 * k ∧ k ≤ 512)
def Glob (k : Nat) (h : kx_Mem) : Prop := ∃ (D : DK) (A : DA) (U : Nat → Prop) (rs : RS) (AV : Nat → Nat) (DV : Nat) (V : Nat → RU) (u td s1 s2 : Nat) (b : Nat → Int32) (n : Nat) (B : TB) (M K : Nat) (pu : Nat → Int32) (f0 f1 : Int32) (nw : Nat) (T : Nat → Nat) (z : Nat), gI D rs V u td s1 s2 b n M K pu nw T z k h.2.2.2.2 ∧ gC D A U rs AV DV V u td s1 s2 b n B M K pu f0 f1 h ∧ gM D U rs V u td s1 s2 b n B M K pu f0 f1 nw T h
section GX
variable {D : DK} {A : DA} {U : Nat → Prop} {rs : RS} {AV : Nat → Nat} {DV : Nat} {V : Nat → RU} {u td s1 s2 : Nat} {b : Nat → Int32} {n : Nat} {B : TB} {M K : Nat} {pu : Nat → Int32} {f0 f1 : Int32} {nw : Nat} {T : Nat → Nat} {z k : Nat} {P L Z : Nat → Nat → Prop} {h h' : kx_Mem}
/-- a call of the class leaves the reference's things -/
theorem gM.fx (m : gM D U rs V u td s1 s2 b n B M K pu f0 f1 nw T h) (w : kx_Gw P L Z h h') (hN : 154 ≤ h.2.2.2.2) (hP : ∀ a j, P a j → pC a j) (hL : ∀ a j, L a j → pC a j) (hZ : ∀ a j, Z a j → pC a j) : gM D U rs V u td s1 s2 b n B M K pu f0 f1 nw T h' := by
  have c : ∀ {X : Nat → Nat → Prop} a j, (∀ a j, X a j → pC a j) → 84 ≤ a → a < 154 → ¬ X a j := fun a j hX q1 q2 q3 => by
    have := hX a j q3
    unfold pC at this
    omega
  obtain ⟨m1, m2, m3, m4, m5, m6, m7, m8, m9, m10, m11, m12⟩ := m
  exact ⟨pmS m1 w hN (fun a j q1 q2 => c a j hZ q1 q2), pmD m2 w hN (fun a j q => c a j hP (by omega) (by omega)), pmZ m3 w hN (fun a j q => c a j hP (by omega) (by omega)), pmU m4 w hN (fun a j q => c a j hP (by omega) (by omega)), pmR m5 w hN (fun a j q => c a j hP (by omega) (by omega)), pmV m6 w hN (fun a j q => c a j hP (by omega) (by omega)), pmI m7 w hN (fun a j q => c a j hP (by omega) (by omega)), pmT m8 w hN (fun a j q => c a j hP (by omega) (by omega)), pmB m9 w hN (fun a j q => c a j hP (by omega) (by omega)), pmF m10 w hN (fun a j q => c a j hP (by omega) (by omega)), pmQ m11 w hN (fun a j q => c a j hP (by omega) (by omega)), pmW m12 w hN (fun a j q => c a j hP (by omega) (by omega))⟩
/-- a call of the reference leaves the class's things -/
theorem gC.fy (m : gC D A U rs AV DV V u td s1 s2 b n B M K pu f0 f1 h) (w : kx_Gw P L nvr h h') (hN : 154 ≤ h.2.2.2.2) (hP : ∀ a j, P a j → pM a j) (hL : ∀ a j, L a j → pM a j) : gC D A U rs AV DV V u td s1 s2 b n B M K pu f0 f1 h' := by
  have c : ∀ {X : Nat → Nat → Prop} a j, (∀ a j, X a j → pM a j) → (a < 84 ∨ 154 ≤ a) → ¬ X a j := fun a j hX q1 q3 => by
    have := hX a j q3
    unfold pM at this
    omega
  obtain ⟨m1, m2, m3, m4, m5, m6, m7, m8, m9, m10⟩ := m
  exact ⟨pcS0 m1 w hN, pcD m2 w (fun a j q => ⟨c a j hP (by omega), c a j hL (by omega)⟩), pcU m3 w hN (fun a j q => c a j hP (by omega)), pcR m4 w hN (fun a j q => c a j hP (by omega)), pcV m5 w hN (fun a j q => ⟨c a j hP (by omega), c a j hL (by omega)⟩) ⟨id, fun _ => id⟩, pcI m6 w hN (fun a j q => c a j hP (by omega)), pcT m7 w hN (fun a j q => c a j hP (by omega)), pcB m8 w hN (fun a j q => c a j hP (by omega)), pcF m9 w hN (fun a j q => c a j hP (by omega)), pcQ m10 w hN (fun a j q => c a j hP (by omega))⟩
/-- scratch of the class -/
theorem gC.fs (m : gC D A U rs AV DV V u td s1 s2 b n B M K pu f0 f1 h) (w : kx_Gw P L nvr h h') (hN : 154 ≤ h.2.2.2.2) (hP : ∀ a j, P a j → (23 ≤ a ∧ a ≤ 29) ∨ a = 38) (hL : ∀ a j, ¬ L a j) : gC D A U rs AV DV V u td s1 s2 b n B M K pu f0 f1 h' := by
  have c : ∀ a j, ¬ ((23 ≤ a ∧ a ≤ 29) ∨ a = 38) → ¬ P a j := fun a j q1 q3 => q1 (hP a j q3)
  obtain ⟨m1, m2, m3, m4, m5, m6, m7, m8, m9, m10⟩ := m
  exact ⟨pcS0 m1 w hN, pcD m2 w (fun a j q => ⟨c a j (by omega), hL a j⟩), pcU m3 w hN (fun a j q => c a j (by omega)), pcR m4 w hN (fun a j q => c a j (by omega)), pcV m5 w hN (fun a j q => ⟨c a j (by omega), hL a j⟩) ⟨id, fun _ => id⟩, pcI m6 w hN (fun a j q => c a j (by omega)), pcT m7 w hN (fun a j q => c a j (by omega)), pcB m8 w hN (fun a j q => c a j (by omega)), pcF m9 w hN (fun a j q => c a j (by omega)), pcQ m10 w hN (fun a j q => c a j (by omega))⟩
theorem gM.fs (m : gM D U rs V u td s1 s2 b n B M K pu f0 f1 nw T h) (w : kx_Gw P L nvr h h') (hN : 154 ≤ h.2.2.2.2) (hP : ∀ a j, P a j → a = 121 ∨ a = 144 ∨ a = 145 ∨ (a = 84 ∧ j = 57)) : gM D U rs V u td s1 s2 b n B M K pu f0 f1 nw T h' := by
  have c : ∀ a j, ¬ (a = 121 ∨ a = 144 ∨ a = 145 ∨ (a = 84 ∧ j = 57)) → ¬ P a j := fun a j q1 q3 => q1 (hP a j q3)
  obtain ⟨m1, m2, m3, m4, m5, m6, m7, m8, m9, m10, m11, m12⟩ := m
  exact ⟨pmS m1 w hN (fun a j q1 q2 => id), pmD m2 w hN (fun a j q => c a j (by omega)), pmZ m3 w hN (fun a j q => c a j (by omega)), pmU m4 w hN (fun a j q => c a j (by omega)), pmR m5 w hN (fun a j q => c a j (by omega)), pmV m6 w hN (fun a j q => c a j (by omega)), pmI m7 w hN (fun a j q => c a j (by omega)), pmT m8 w hN (fun a j q => c a j (by omega)), pmB m9 w hN (fun a j q => c a j (by omega)), pmF m10 w hN (fun a j q => c a j (by omega)), pmQ m11 w hN (fun a j q => c a j (by omega)), pmW m12 w hN (fun a j q => c a j (by omega))⟩
theorem gI.up {N N' : Nat} (i : gI D rs V u td s1 s2 b n M K pu nw T z k N) (hk : k < 512) (h1 : N ≤ N') (h2 : N' ≤ N + 3) : gI D rs V u td s1 s2 b n M K pu nw T z (k + 1) N' := by
  obtain ⟨i1, i2, i3, i4, i5, i6, i7, ⟨i8, i9, i10⟩, i11, i12, i13⟩ := i
  exact ⟨i1, i2, i3, i4, i5, i6, i7, ⟨i8, i9, by omega⟩, by omega, by omega, hk⟩
end GX
theorem Glob.k0 {k : Nat} {h : kx_Mem} (hG : Glob k h) : (h.2.2.2.1 0).1 = 13 := by
  obtain ⟨D, A, U, rs, AV, DV, V, u, td, s1, s2, b, n, B, M, K, pu, f0, f1, nw, T, z, i, c, m⟩ := hG
  exact c.1.k 0 rfl
theorem Glob.up {k : Nat} {h : kx_Mem} (hk : k < 512) (hG : Glob k h) : Glob (k + 1) h := by
  obtain ⟨D, A, U, rs, AV, DV, V, u, td, s1, s2, b, n, B, M, K, pu, f0, f1, nw, T, z, i, c, m⟩ := hG
  exact ⟨D, A, U, rs, AV, DV, V, u, td, s1, s2, b, n, B, M, K, pu, f0, f1, nw, T, z, i.up hk (Nat.le_refl _) (by omega), c, m⟩
/-- a call on both sides: the same answer, and the whole again -/
def Bth (l : Launch) (g : kx_G) (μ ν : kx_M) (as : List Value) (k : Nat) (h : kx_Mem) (mc ms : Nat) : Prop := kx_Sp l g μ (.ref 0 :: as) h 30 mc ms (fun v h1 => ∃ x : Int32, v = some (.int x) ∧ (h1.2.2.2.1 84).1 = 15 ∧ kx_Sp l g ν (.ref 84 :: as) h1 30 0 0 (fun v2 h2 => v2 = some (.int x) ∧ Glob (k + 1) h2))
