abbrev zty (cI cJ cZ cO : ClassId) : List (ClassId × FieldType) := [(cI, .int), (cJ, .long), (cZ, .boolean), (cO, .object "FacetFigures$Facet")]
abbrev zclX : List vw_C := [(RX8, TX8, 7), (RX6, TX6, 4), (RX3, TX3, 3), (RX2, TX2, 9), (RX7, TX7, 3), (RX4, TX4, 2), (RX5, TX5, 1), (RX1, TX1, 14)]
abbrev zclM : List vw_C := [(RX9, TX9, 33)]
set_option maxRecDepth 100000 in
theorem zinX8 : ∀ w ∈ u_ws RX8 TX8 7, w ∈ zbg := by decide +kernel
set_option maxRecDepth 100000 in
theorem zinX6 : ∀ w ∈ u_ws RX6 TX6 4, w ∈ zbg := by decide +kernel
set_option maxRecDepth 100000 in
theorem zinX3 : ∀ w ∈ u_ws RX3 TX3 3, w ∈ zbg := by decide +kernel
set_option maxRecDepth 100000 in
theorem zinX2 : ∀ w ∈ u_ws RX2 TX2 9, w ∈ zbg := by decide +kernel
set_option maxRecDepth 100000 in
theorem zinX7 : ∀ w ∈ u_ws RX7 TX7 3, w ∈ zbg := by decide +kernel
set_option maxRecDepth 100000 in
theorem zinX4 : ∀ w ∈ u_ws RX4 TX4 2, w ∈ zbg := by decide +kernel
set_option maxRecDepth 100000 in
theorem zinX5 : ∀ w ∈ u_ws RX5 TX5 1, w ∈ zbg := by decide +kernel
set_option maxRecDepth 100000 in
theorem zinX1 : ∀ w ∈ u_ws RX1 TX1 14, w ∈ zbg := by decide +kernel
set_option maxRecDepth 100000 in
theorem zinX9 : ∀ w ∈ u_ws RX9 TX9 33, w ∈ zbg := by decide +kernel
def zFo (ad : Nat → Nat) (σ : zS) (k : Nat) : Nat × va_E := (ad (20 + k), .inr (7, [.int (σ.1 (8 + 12 * k)), .int (σ.1 (9 + 12 * k)), .int (σ.1 (10 + 12 * k)), .int (σ.1 (11 + 12 * k)), .int (σ.1 (12 + 12 * k)), .int (σ.1 (13 + 12 * k)), .int (σ.1 (14 + 12 * k)), .int (σ.1 (15 + 12 * k)), .int (σ.1 (16 + 12 * k)), .int (σ.1 (17 + 12 * k)), .int (σ.1 (18 + 12 * k)), .int (σ.1 (19 + 12 * k)), .ref (ad (30 + k)), .ref (ad (40 + k))]))
def zFf (ad : Nat → Nat) (cI : ClassId) (σ : zS) (k : Nat) : Nat × va_E := (ad (30 + k), .inl (cI, 6, .inl (σ.2.1 (8 + k))))
def zFt (ad : Nat → Nat) (cI : ClassId) (σ : zS) (k : Nat) : Nat × va_E := (ad (40 + k), .inl (cI, 6, .inl (σ.2.1 (18 + k))))
def zwX (ad : Nat → Nat) (cI cJ cZ cO : ClassId) (σ : zS) : va_W := [
  (ad 0, .inr (0, [.ref (ad 1), .ref (ad 2), .ref (ad 3), .ref (ad 4), .ref (ad 5), .int (σ.1 0), .int (σ.1 1)])),
  (ad 1, .inr (1, [.int (σ.1 2), .ref (ad 8), .ref (ad 9), .ref (ad 10)])),
  (ad 2, .inr (2, [.int (σ.1 3), .ref (ad 1), .ref (ad 11)])),
  (ad 3, .inl (cO, 10, .inr (.inr (.inr (.inr (fun k => some (ad (20 + k)))))))),
  (ad 4, .inr (3, [.int (σ.1 5), .int (σ.1 6), .ref (ad 7), .ref (ad 6), .ref (ad 13), .ref (ad 14), .ref (ad 15), .ref (ad 16), .ref (ad 17)])),
  (ad 5, .inr (4, [.int (σ.1 7), .ref (ad 7), .ref (ad 18)])),
  (ad 6, .inr (5, [.int (σ.1 4), .ref (ad 12)])),
  (ad 7, .inr (6, [.ref (ad 19)])),
  (ad 8, .inl (cZ, 120, .inl (σ.2.1 0))),
  (ad 9, .inl (cI, 2160, .inl (σ.2.1 1))),
  (ad 10, .inl (cI, 720, .inl (σ.2.1 2))),
  (ad 11, .inl (cI, 120, .inl (σ.2.1 3))),
  (ad 12, .inl (cI, 18, .inl (σ.2.1 4))),
  (ad 13, .inl (cJ, 1080, .inr (.inl (σ.2.2 1)))),
  (ad 14, .inl (cI, 1080, .inl (σ.2.1 5))),
  (ad 15, .inl (cI, 1080, .inl (σ.2.1 6))),
  (ad 16, .inl (cI, 1080, .inl (σ.2.1 7))),
  (ad 17, .inl (cJ, 1080, .inr (.inl (σ.2.2 2)))),
  (ad 18, .inl (cJ, 360, .inr (.inl (σ.2.2 3)))),
  (ad 19, .inl (cJ, 1080, .inr (.inl (σ.2.2 0)))),
  zFo ad σ 0,
  zFo ad σ 1,
  zFo ad σ 2,
  zFo ad σ 3,
  zFo ad σ 4,
  zFo ad σ 5,
  zFo ad σ 6,
  zFo ad σ 7,
  zFo ad σ 8,
  zFo ad σ 9,
  zFf ad cI σ 0,
  zFf ad cI σ 1,
  zFf ad cI σ 2,
  zFf ad cI σ 3,
  zFf ad cI σ 4,
  zFf ad cI σ 5,
  zFf ad cI σ 6,
  zFf ad cI σ 7,
  zFf ad cI σ 8,
  zFf ad cI σ 9,
  zFt ad cI σ 0,
  zFt ad cI σ 1,
  zFt ad cI σ 2,
  zFt ad cI σ 3,
  zFt ad cI σ 4,
  zFt ad cI σ 5,
  zFt ad cI σ 6,
  zFt ad cI σ 7,
  zFt ad cI σ 8,
  zFt ad cI σ 9]
def zwM (ad : Nat → Nat) (cI cJ cZ cO : ClassId) (σ : zS) : va_W := [
  (ad 0, .inr (0, [.int (σ.1 0), .ref (ad 1), .ref (ad 2), .ref (ad 3), .int (σ.1 1), .ref (ad 4), .ref (ad 5), .ref (ad 6), .ref (ad 7), .ref (ad 8), .ref (ad 9), .ref (ad 10), .ref (ad 11), .ref (ad 12), .ref (ad 13), .ref (ad 14), .ref (ad 15), .ref (ad 16), .ref (ad 17), .int (σ.1 2), .ref (ad 18), .int (σ.1 3), .ref (ad 19), .int (σ.1 4), .ref (ad 20), .ref (ad 21), .ref (ad 22), .int (σ.1 5), .ref (ad 23), .ref (ad 24), .ref (ad 25), .int (σ.1 6), .ref (ad 26)])),
  (ad 1, .inl (cI, 720, .inl (σ.2.1 0))),
  (ad 2, .inl (cI, 2160, .inl (σ.2.1 1))),
  (ad 3, .inl (cZ, 120, .inl (σ.2.1 2))),
  (ad 4, .inl (cI, 10, .inl (σ.2.1 3))),
  (ad 5, .inl (cI, 10, .inl (σ.2.1 4))),
  (ad 6, .inl (cI, 10, .inl (σ.2.1 5))),
  (ad 7, .inl (cI, 10, .inl (σ.2.1 6))),
  (ad 8, .inl (cI, 10, .inl (σ.2.1 7))),
  (ad 9, .inl (cI, 60, .inl (σ.2.1 8))),
  (ad 10, .inl (cI, 60, .inl (σ.2.1 9))),
  (ad 11, .inl (cI, 10, .inl (σ.2.1 10))),
  (ad 12, .inl (cI, 10, .inl (σ.2.1 11))),
  (ad 13, .inl (cI, 10, .inl (σ.2.1 12))),
  (ad 14, .inl (cI, 10, .inl (σ.2.1 13))),
  (ad 15, .inl (cZ, 10, .inl (σ.2.1 14))),
  (ad 16, .inl (cI, 10, .inl (σ.2.1 15))),
  (ad 17, .inl (cI, 10, .inl (σ.2.1 16))),
  (ad 18, .inl (cZ, 840, .inl (σ.2.1 17))),
  (ad 19, .inl (cI, 6, .inl (σ.2.1 18))),
  (ad 20, .inl (cI, 1100, .inl (σ.2.1 19))),
  (ad 21, .inl (cI, 1100, .inl (σ.2.1 20))),
  (ad 22, .inl (cJ, 1100, .inr (.inl (σ.2.2 0)))),
  (ad 23, .inl (cI, 120, .inl (σ.2.1 21))),
  (ad 24, .inl (cI, 2160, .inl (σ.2.1 22))),
  (ad 25, .inl (cZ, 120, .inl (σ.2.1 23))),
  (ad 26, .inl (cI, 360, .inl (σ.2.1 24)))]
theorem z10 {P : Nat → Prop} (h : P 0 ∧ P 1 ∧ P 2 ∧ P 3 ∧ P 4 ∧ P 5 ∧ P 6 ∧ P 7 ∧ P 8 ∧ P 9) {k : Nat} (hk : k < 10) : P k := by
  obtain ⟨h0, h1, h2, h3, h4, h5, h6, h7, h8, h9⟩ := h
  match k, hk with
  | 0, _ => exact h0
  | 1, _ => exact h1
  | 2, _ => exact h2
  | 3, _ => exact h3
  | 4, _ => exact h4
  | 5, _ => exact h5
  | 6, _ => exact h6
  | 7, _ => exact h7
  | 8, _ => exact h8
  | 9, _ => exact h9
  | n + 10, h => exact absurd h (by omega)
section ZF
variable {ad : Nat → Nat} {cI cJ cZ cO : ClassId} {σ : zS}
theorem zF_obj {k : Nat} (hk : k < 10) : (zwX ad cI cJ cZ cO σ)[20 + k]? = some (ad (20 + k), .inr (7, [.int (σ.1 (8 + 12 * k)), .int (σ.1 (9 + 12 * k)), .int (σ.1 (10 + 12 * k)), .int (σ.1 (11 + 12 * k)), .int (σ.1 (12 + 12 * k)), .int (σ.1 (13 + 12 * k)), .int (σ.1 (14 + 12 * k)), .int (σ.1 (15 + 12 * k)), .int (σ.1 (16 + 12 * k)), .int (σ.1 (17 + 12 * k)), .int (σ.1 (18 + 12 * k)), .int (σ.1 (19 + 12 * k)), .ref (ad (30 + k)), .ref (ad (40 + k))])) := z10 (P := fun k => (zwX ad cI cJ cZ cO σ)[20 + k]? = some (ad (20 + k), .inr (7, [.int (σ.1 (8 + 12 * k)), .int (σ.1 (9 + 12 * k)), .int (σ.1 (10 + 12 * k)), .int (σ.1 (11 + 12 * k)), .int (σ.1 (12 + 12 * k)), .int (σ.1 (13 + 12 * k)), .int (σ.1 (14 + 12 * k)), .int (σ.1 (15 + 12 * k)), .int (σ.1 (16 + 12 * k)), .int (σ.1 (17 + 12 * k)), .int (σ.1 (18 + 12 * k)), .int (σ.1 (19 + 12 * k)), .ref (ad (30 + k)), .ref (ad (40 + k))]))) ⟨rfl, rfl, rfl, rfl, rfl, rfl, rfl, rfl, rfl, rfl⟩ hk
theorem zF_froms {k : Nat} (hk : k < 10) : (zwX ad cI cJ cZ cO σ)[30 + k]? = some (ad (30 + k), .inl (cI, 6, .inl (σ.2.1 (8 + k)))) := z10 (P := fun k => (zwX ad cI cJ cZ cO σ)[30 + k]? = some (ad (30 + k), .inl (cI, 6, .inl (σ.2.1 (8 + k))))) ⟨rfl, rfl, rfl, rfl, rfl, rfl, rfl, rfl, rfl, rfl⟩ hk
theorem zF_tos {k : Nat} (hk : k < 10) : (zwX ad cI cJ cZ cO σ)[40 + k]? = some (ad (40 + k), .inl (cI, 6, .inl (σ.2.1 (18 + k)))) := z10 (P := fun k => (zwX ad cI cJ cZ cO σ)[40 + k]? = some (ad (40 + k), .inl (cI, 6, .inl (σ.2.1 (18 + k))))) ⟨rfl, rfl, rfl, rfl, rfl, rfl, rfl, rfl, rfl, rfl⟩ hk
theorem zF_fset {k : Nat} (hk : k < 10) : ∀ f : Nat → Int32, (zwX ad cI cJ cZ cO σ).set (30 + k) (ad (30 + k), .inl (cI, 6, .inl f)) = zwX ad cI cJ cZ cO (zsA σ (8 + k) f) := z10 (P := fun k => ∀ f : Nat → Int32, (zwX ad cI cJ cZ cO σ).set (30 + k) (ad (30 + k), .inl (cI, 6, .inl f)) = zwX ad cI cJ cZ cO (zsA σ (8 + k) f)) ⟨fun _ => rfl, fun _ => rfl, fun _ => rfl, fun _ => rfl, fun _ => rfl, fun _ => rfl, fun _ => rfl, fun _ => rfl, fun _ => rfl, fun _ => rfl⟩ hk
theorem zF_tset {k : Nat} (hk : k < 10) : ∀ f : Nat → Int32, (zwX ad cI cJ cZ cO σ).set (40 + k) (ad (40 + k), .inl (cI, 6, .inl f)) = zwX ad cI cJ cZ cO (zsA σ (18 + k) f) := z10 (P := fun k => ∀ f : Nat → Int32, (zwX ad cI cJ cZ cO σ).set (40 + k) (ad (40 + k), .inl (cI, 6, .inl f)) = zwX ad cI cJ cZ cO (zsA σ (18 + k) f)) ⟨fun _ => rfl, fun _ => rfl, fun _ => rfl, fun _ => rfl, fun _ => rfl, fun _ => rfl, fun _ => rfl, fun _ => rfl, fun _ => rfl, fun _ => rfl⟩ hk
theorem zF_set0 {k : Nat} (hk : k < 10) (v : Int32) : (zwX ad cI cJ cZ cO σ).set (20 + k) (ad (20 + k), .inr (7, ([.int (σ.1 (8 + 12 * k)), .int (σ.1 (9 + 12 * k)), .int (σ.1 (10 + 12 * k)), .int (σ.1 (11 + 12 * k)), .int (σ.1 (12 + 12 * k)), .int (σ.1 (13 + 12 * k)), .int (σ.1 (14 + 12 * k)), .int (σ.1 (15 + 12 * k)), .int (σ.1 (16 + 12 * k)), .int (σ.1 (17 + 12 * k)), .int (σ.1 (18 + 12 * k)), .int (σ.1 (19 + 12 * k)), .ref (ad (30 + k)), .ref (ad (40 + k))] : List Value).set 0 (.int v))) = zwX ad cI cJ cZ cO (zsI σ (8 + 12 * k) v) := z10 (P := fun k => (zwX ad cI cJ cZ cO σ).set (20 + k) (ad (20 + k), .inr (7, ([.int (σ.1 (8 + 12 * k)), .int (σ.1 (9 + 12 * k)), .int (σ.1 (10 + 12 * k)), .int (σ.1 (11 + 12 * k)), .int (σ.1 (12 + 12 * k)), .int (σ.1 (13 + 12 * k)), .int (σ.1 (14 + 12 * k)), .int (σ.1 (15 + 12 * k)), .int (σ.1 (16 + 12 * k)), .int (σ.1 (17 + 12 * k)), .int (σ.1 (18 + 12 * k)), .int (σ.1 (19 + 12 * k)), .ref (ad (30 + k)), .ref (ad (40 + k))] : List Value).set 0 (.int v))) = zwX ad cI cJ cZ cO (zsI σ (8 + 12 * k) v)) ⟨rfl, rfl, rfl, rfl, rfl, rfl, rfl, rfl, rfl, rfl⟩ hk
theorem zF_set1 {k : Nat} (hk : k < 10) (v : Int32) : (zwX ad cI cJ cZ cO σ).set (20 + k) (ad (20 + k), .inr (7, ([.int (σ.1 (8 + 12 * k)), .int (σ.1 (9 + 12 * k)), .int (σ.1 (10 + 12 * k)), .int (σ.1 (11 + 12 * k)), .int (σ.1 (12 + 12 * k)), .int (σ.1 (13 + 12 * k)), .int (σ.1 (14 + 12 * k)), .int (σ.1 (15 + 12 * k)), .int (σ.1 (16 + 12 * k)), .int (σ.1 (17 + 12 * k)), .int (σ.1 (18 + 12 * k)), .int (σ.1 (19 + 12 * k)), .ref (ad (30 + k)), .ref (ad (40 + k))] : List Value).set 1 (.int v))) = zwX ad cI cJ cZ cO (zsI σ (9 + 12 * k) v) := z10 (P := fun k => (zwX ad cI cJ cZ cO σ).set (20 + k) (ad (20 + k), .inr (7, ([.int (σ.1 (8 + 12 * k)), .int (σ.1 (9 + 12 * k)), .int (σ.1 (10 + 12 * k)), .int (σ.1 (11 + 12 * k)), .int (σ.1 (12 + 12 * k)), .int (σ.1 (13 + 12 * k)), .int (σ.1 (14 + 12 * k)), .int (σ.1 (15 + 12 * k)), .int (σ.1 (16 + 12 * k)), .int (σ.1 (17 + 12 * k)), .int (σ.1 (18 + 12 * k)), .int (σ.1 (19 + 12 * k)), .ref (ad (30 + k)), .ref (ad (40 + k))] : List Value).set 1 (.int v))) = zwX ad cI cJ cZ cO (zsI σ (9 + 12 * k) v)) ⟨rfl, rfl, rfl, rfl, rfl, rfl, rfl, rfl, rfl, rfl⟩ hk
theorem zF_set2 {k : Nat} (hk : k < 10) (v : Int32) : (zwX ad cI cJ cZ cO σ).set (20 + k) (ad (20 + k), .inr (7, ([.int (σ.1 (8 + 12 * k)), .int (σ.1 (9 + 12 * k)), .int (σ.1 (10 + 12 * k)), .int (σ.1 (11 + 12 * k)), .int (σ.1 (12 + 12 * k)), .int (σ.1 (13 + 12 * k)), .int (σ.1 (14 + 12 * k)), .int (σ.1 (15 + 12 * k)), .int (σ.1 (16 + 12 * k)), .int (σ.1 (17 + 12 * k)), .int (σ.1 (18 + 12 * k)), .int (σ.1 (19 + 12 * k)), .ref (ad (30 + k)), .ref (ad (40 + k))] : List Value).set 2 (.int v))) = zwX ad cI cJ cZ cO (zsI σ (10 + 12 * k) v) := z10 (P := fun k => (zwX ad cI cJ cZ cO σ).set (20 + k) (ad (20 + k), .inr (7, ([.int (σ.1 (8 + 12 * k)), .int (σ.1 (9 + 12 * k)), .int (σ.1 (10 + 12 * k)), .int (σ.1 (11 + 12 * k)), .int (σ.1 (12 + 12 * k)), .int (σ.1 (13 + 12 * k)), .int (σ.1 (14 + 12 * k)), .int (σ.1 (15 + 12 * k)), .int (σ.1 (16 + 12 * k)), .int (σ.1 (17 + 12 * k)), .int (σ.1 (18 + 12 * k)), .int (σ.1 (19 + 12 * k)), .ref (ad (30 + k)), .ref (ad (40 + k))] : List Value).set 2 (.int v))) = zwX ad cI cJ cZ cO (zsI σ (10 + 12 * k) v)) ⟨rfl, rfl, rfl, rfl, rfl, rfl, rfl, rfl, rfl, rfl⟩ hk
theorem zF_set3 {k : Nat} (hk : k < 10) (v : Int32) : (zwX ad cI cJ cZ cO σ).set (20 + k) (ad (20 + k), .inr (7, ([.int (σ.1 (8 + 12 * k)), .int (σ.1 (9 + 12 * k)), .int (σ.1 (10 + 12 * k)), .int (σ.1 (11 + 12 * k)), .int (σ.1 (12 + 12 * k)), .int (σ.1 (13 + 12 * k)), .int (σ.1 (14 + 12 * k)), .int (σ.1 (15 + 12 * k)), .int (σ.1 (16 + 12 * k)), .int (σ.1 (17 + 12 * k)), .int (σ.1 (18 + 12 * k)), .int (σ.1 (19 + 12 * k)), .ref (ad (30 + k)), .ref (ad (40 + k))] : List Value).set 3 (.int v))) = zwX ad cI cJ cZ cO (zsI σ (11 + 12 * k) v) := z10 (P := fun k => (zwX ad cI cJ cZ cO σ).set (20 + k) (ad (20 + k), .inr (7, ([.int (σ.1 (8 + 12 * k)), .int (σ.1 (9 + 12 * k)), .int (σ.1 (10 + 12 * k)), .int (σ.1 (11 + 12 * k)), .int (σ.1 (12 + 12 * k)), .int (σ.1 (13 + 12 * k)), .int (σ.1 (14 + 12 * k)), .int (σ.1 (15 + 12 * k)), .int (σ.1 (16 + 12 * k)), .int (σ.1 (17 + 12 * k)), .int (σ.1 (18 + 12 * k)), .int (σ.1 (19 + 12 * k)), .ref (ad (30 + k)), .ref (ad (40 + k))] : List Value).set 3 (.int v))) = zwX ad cI cJ cZ cO (zsI σ (11 + 12 * k) v)) ⟨rfl, rfl, rfl, rfl, rfl, rfl, rfl, rfl, rfl, rfl⟩ hk
theorem zF_set4 {k : Nat} (hk : k < 10) (v : Int32) : (zwX ad cI cJ cZ cO σ).set (20 + k) (ad (20 + k), .inr (7, ([.int (σ.1 (8 + 12 * k)), .int (σ.1 (9 + 12 * k)), .int (σ.1 (10 + 12 * k)), .int (σ.1 (11 + 12 * k)), .int (σ.1 (12 + 12 * k)), .int (σ.1 (13 + 12 * k)), .int (σ.1 (14 + 12 * k)), .int (σ.1 (15 + 12 * k)), .int (σ.1 (16 + 12 * k)), .int (σ.1 (17 + 12 * k)), .int (σ.1 (18 + 12 * k)), .int (σ.1 (19 + 12 * k)), .ref (ad (30 + k)), .ref (ad (40 + k))] : List Value).set 4 (.int v))) = zwX ad cI cJ cZ cO (zsI σ (12 + 12 * k) v) := z10 (P := fun k => (zwX ad cI cJ cZ cO σ).set (20 + k) (ad (20 + k), .inr (7, ([.int (σ.1 (8 + 12 * k)), .int (σ.1 (9 + 12 * k)), .int (σ.1 (10 + 12 * k)), .int (σ.1 (11 + 12 * k)), .int (σ.1 (12 + 12 * k)), .int (σ.1 (13 + 12 * k)), .int (σ.1 (14 + 12 * k)), .int (σ.1 (15 + 12 * k)), .int (σ.1 (16 + 12 * k)), .int (σ.1 (17 + 12 * k)), .int (σ.1 (18 + 12 * k)), .int (σ.1 (19 + 12 * k)), .ref (ad (30 + k)), .ref (ad (40 + k))] : List Value).set 4 (.int v))) = zwX ad cI cJ cZ cO (zsI σ (12 + 12 * k) v)) ⟨rfl, rfl, rfl, rfl, rfl, rfl, rfl, rfl, rfl, rfl⟩ hk
theorem zF_set5 {k : Nat} (hk : k < 10) (v : Int32) : (zwX ad cI cJ cZ cO σ).set (20 + k) (ad (20 + k), .inr (7, ([.int (σ.1 (8 + 12 * k)), .int (σ.1 (9 + 12 * k)), .int (σ.1 (10 + 12 * k)), .int (σ.1 (11 + 12 * k)), .int (σ.1 (12 + 12 * k)), .int (σ.1 (13 + 12 * k)), .int (σ.1 (14 + 12 * k)), .int (σ.1 (15 + 12 * k)), .int (σ.1 (16 + 12 * k)), .int (σ.1 (17 + 12 * k)), .int (σ.1 (18 + 12 * k)), .int (σ.1 (19 + 12 * k)), .ref (ad (30 + k)), .ref (ad (40 + k))] : List Value).set 5 (.int v))) = zwX ad cI cJ cZ cO (zsI σ (13 + 12 * k) v) := z10 (P := fun k => (zwX ad cI cJ cZ cO σ).set (20 + k) (ad (20 + k), .inr (7, ([.int (σ.1 (8 + 12 * k)), .int (σ.1 (9 + 12 * k)), .int (σ.1 (10 + 12 * k)), .int (σ.1 (11 + 12 * k)), .int (σ.1 (12 + 12 * k)), .int (σ.1 (13 + 12 * k)), .int (σ.1 (14 + 12 * k)), .int (σ.1 (15 + 12 * k)), .int (σ.1 (16 + 12 * k)), .int (σ.1 (17 + 12 * k)), .int (σ.1 (18 + 12 * k)), .int (σ.1 (19 + 12 * k)), .ref (ad (30 + k)), .ref (ad (40 + k))] : List Value).set 5 (.int v))) = zwX ad cI cJ cZ cO (zsI σ (13 + 12 * k) v)) ⟨rfl, rfl, rfl, rfl, rfl, rfl, rfl, rfl, rfl, rfl⟩ hk
theorem zF_set6 {k : Nat} (hk : k < 10) (v : Int32) : (zwX ad cI cJ cZ cO σ).set (20 + k) (ad (20 + k), .inr (7, ([.int (σ.1 (8 + 12 * k)), .int (σ.1 (9 + 12 * k)), .int (σ.1 (10 + 12 * k)), .int (σ.1 (11 + 12 * k)), .int (σ.1 (12 + 12 * k)), .int (σ.1 (13 + 12 * k)), .int (σ.1 (14 + 12 * k)), .int (σ.1 (15 + 12 * k)), .int (σ.1 (16 + 12 * k)), .int (σ.1 (17 + 12 * k)), .int (σ.1 (18 + 12 * k)), .int (σ.1 (19 + 12 * k)), .ref (ad (30 + k)), .ref (ad (40 + k))] : List Value).set 6 (.int v))) = zwX ad cI cJ cZ cO (zsI σ (14 + 12 * k) v) := z10 (P := fun k => (zwX ad cI cJ cZ cO σ).set (20 + k) (ad (20 + k), .inr (7, ([.int (σ.1 (8 + 12 * k)), .int (σ.1 (9 + 12 * k)), .int (σ.1 (10 + 12 * k)), .int (σ.1 (11 + 12 * k)), .int (σ.1 (12 + 12 * k)), .int (σ.1 (13 + 12 * k)), .int (σ.1 (14 + 12 * k)), .int (σ.1 (15 + 12 * k)), .int (σ.1 (16 + 12 * k)), .int (σ.1 (17 + 12 * k)), .int (σ.1 (18 + 12 * k)), .int (σ.1 (19 + 12 * k)), .ref (ad (30 + k)), .ref (ad (40 + k))] : List Value).set 6 (.int v))) = zwX ad cI cJ cZ cO (zsI σ (14 + 12 * k) v)) ⟨rfl, rfl, rfl, rfl, rfl, rfl, rfl, rfl, rfl, rfl⟩ hk
theorem zF_set7 {k : Nat} (hk : k < 10) (v : Int32) : (zwX ad cI cJ cZ cO σ).set (20 + k) (ad (20 + k), .inr (7, ([.int (σ.1 (8 + 12 * k)), .int (σ.1 (9 + 12 * k)), .int (σ.1 (10 + 12 * k)), .int (σ.1 (11 + 12 * k)), .int (σ.1 (12 + 12 * k)), .int (σ.1 (13 + 12 * k)), .int (σ.1 (14 + 12 * k)), .int (σ.1 (15 + 12 * k)), .int (σ.1 (16 + 12 * k)), .int (σ.1 (17 + 12 * k)), .int (σ.1 (18 + 12 * k)), .int (σ.1 (19 + 12 * k)), .ref (ad (30 + k)), .ref (ad (40 + k))] : List Value).set 7 (.int v))) = zwX ad cI cJ cZ cO (zsI σ (15 + 12 * k) v) := z10 (P := fun k => (zwX ad cI cJ cZ cO σ).set (20 + k) (ad (20 + k), .inr (7, ([.int (σ.1 (8 + 12 * k)), .int (σ.1 (9 + 12 * k)), .int (σ.1 (10 + 12 * k)), .int (σ.1 (11 + 12 * k)), .int (σ.1 (12 + 12 * k)), .int (σ.1 (13 + 12 * k)), .int (σ.1 (14 + 12 * k)), .int (σ.1 (15 + 12 * k)), .int (σ.1 (16 + 12 * k)), .int (σ.1 (17 + 12 * k)), .int (σ.1 (18 + 12 * k)), .int (σ.1 (19 + 12 * k)), .ref (ad (30 + k)), .ref (ad (40 + k))] : List Value).set 7 (.int v))) = zwX ad cI cJ cZ cO (zsI σ (15 + 12 * k) v)) ⟨rfl, rfl, rfl, rfl, rfl, rfl, rfl, rfl, rfl, rfl⟩ hk
theorem zF_set8 {k : Nat} (hk : k < 10) (v : Int32) : (zwX ad cI cJ cZ cO σ).set (20 + k) (ad (20 + k), .inr (7, ([.int (σ.1 (8 + 12 * k)), .int (σ.1 (9 + 12 * k)), .int (σ.1 (10 + 12 * k)), .int (σ.1 (11 + 12 * k)), .int (σ.1 (12 + 12 * k)), .int (σ.1 (13 + 12 * k)), .int (σ.1 (14 + 12 * k)), .int (σ.1 (15 + 12 * k)), .int (σ.1 (16 + 12 * k)), .int (σ.1 (17 + 12 * k)), .int (σ.1 (18 + 12 * k)), .int (σ.1 (19 + 12 * k)), .ref (ad (30 + k)), .ref (ad (40 + k))] : List Value).set 8 (.int v))) = zwX ad cI cJ cZ cO (zsI σ (16 + 12 * k) v) := z10 (P := fun k => (zwX ad cI cJ cZ cO σ).set (20 + k) (ad (20 + k), .inr (7, ([.int (σ.1 (8 + 12 * k)), .int (σ.1 (9 + 12 * k)), .int (σ.1 (10 + 12 * k)), .int (σ.1 (11 + 12 * k)), .int (σ.1 (12 + 12 * k)), .int (σ.1 (13 + 12 * k)), .int (σ.1 (14 + 12 * k)), .int (σ.1 (15 + 12 * k)), .int (σ.1 (16 + 12 * k)), .int (σ.1 (17 + 12 * k)), .int (σ.1 (18 + 12 * k)), .int (σ.1 (19 + 12 * k)), .ref (ad (30 + k)), .ref (ad (40 + k))] : List Value).set 8 (.int v))) = zwX ad cI cJ cZ cO (zsI σ (16 + 12 * k) v)) ⟨rfl, rfl, rfl, rfl, rfl, rfl, rfl, rfl, rfl, rfl⟩ hk
theorem zF_set9 {k : Nat} (hk : k < 10) (v : Int32) : (zwX ad cI cJ cZ cO σ).set (20 + k) (ad (20 + k), .inr (7, ([.int (σ.1 (8 + 12 * k)), .int (σ.1 (9 + 12 * k)), .int (σ.1 (10 + 12 * k)), .int (σ.1 (11 + 12 * k)), .int (σ.1 (12 + 12 * k)), .int (σ.1 (13 + 12 * k)), .int (σ.1 (14 + 12 * k)), .int (σ.1 (15 + 12 * k)), .int (σ.1 (16 + 12 * k)), .int (σ.1 (17 + 12 * k)), .int (σ.1 (18 + 12 * k)), .int (σ.1 (19 + 12 * k)), .ref (ad (30 + k)), .ref (ad (40 + k))] : List Value).set 9 (.int v))) = zwX ad cI cJ cZ cO (zsI σ (17 + 12 * k) v) := z10 (P := fun k => (zwX ad cI cJ cZ cO σ).set (20 + k) (ad (20 + k), .inr (7, ([.int (σ.1 (8 + 12 * k)), .int (σ.1 (9 + 12 * k)), .int (σ.1 (10 + 12 * k)), .int (σ.1 (11 + 12 * k)), .int (σ.1 (12 + 12 * k)), .int (σ.1 (13 + 12 * k)), .int (σ.1 (14 + 12 * k)), .int (σ.1 (15 + 12 * k)), .int (σ.1 (16 + 12 * k)), .int (σ.1 (17 + 12 * k)), .int (σ.1 (18 + 12 * k)), .int (σ.1 (19 + 12 * k)), .ref (ad (30 + k)), .ref (ad (40 + k))] : List Value).set 9 (.int v))) = zwX ad cI cJ cZ cO (zsI σ (17 + 12 * k) v)) ⟨rfl, rfl, rfl, rfl, rfl, rfl, rfl, rfl, rfl, rfl⟩ hk
theorem zF_set10 {k : Nat} (hk : k < 10) (v : Int32) : (zwX ad cI cJ cZ cO σ).set (20 + k) (ad (20 + k), .inr (7, ([.int (σ.1 (8 + 12 * k)), .int (σ.1 (9 + 12 * k)), .int (σ.1 (10 + 12 * k)), .int (σ.1 (11 + 12 * k)), .int (σ.1 (12 + 12 * k)), .int (σ.1 (13 + 12 * k)), .int (σ.1 (14 + 12 * k)), .int (σ.1 (15 + 12 * k)), .int (σ.1 (16 + 12 * k)), .int (σ.1 (17 + 12 * k)), .int (σ.1 (18 + 12 * k)), .int (σ.1 (19 + 12 * k)), .ref (ad (30 + k)), .ref (ad (40 + k))] : List Value).set 10 (.int v))) = zwX ad cI cJ cZ cO (zsI σ (18 + 12 * k) v) := z10 (P := fun k => (zwX ad cI cJ cZ cO σ).set (20 + k) (ad (20 + k), .inr (7, ([.int (σ.1 (8 + 12 * k)), .int (σ.1 (9 + 12 * k)), .int (σ.1 (10 + 12 * k)), .int (σ.1 (11 + 12 * k)), .int (σ.1 (12 + 12 * k)), .int (σ.1 (13 + 12 * k)), .int (σ.1 (14 + 12 * k)), .int (σ.1 (15 + 12 * k)), .int (σ.1 (16 + 12 * k)), .int (σ.1 (17 + 12 * k)), .int (σ.1 (18 + 12 * k)), .int (σ.1 (19 + 12 * k)), .ref (ad (30 + k)), .ref (ad (40 + k))] : List Value).set 10 (.int v))) = zwX ad cI cJ cZ cO (zsI σ (18 + 12 * k) v)) ⟨rfl, rfl, rfl, rfl, rfl, rfl, rfl, rfl, rfl, rfl⟩ hk
theorem zF_set11 {k : Nat} (hk : k < 10) (v : Int32) : (zwX ad cI cJ cZ cO σ).set (20 + k) (ad (20 + k), .inr (7, ([.int (σ.1 (8 + 12 * k)), .int (σ.1 (9 + 12 * k)), .int (σ.1 (10 + 12 * k)), .int (σ.1 (11 + 12 * k)), .int (σ.1 (12 + 12 * k)), .int (σ.1 (13 + 12 * k)), .int (σ.1 (14 + 12 * k)), .int (σ.1 (15 + 12 * k)), .int (σ.1 (16 + 12 * k)), .int (σ.1 (17 + 12 * k)), .int (σ.1 (18 + 12 * k)), .int (σ.1 (19 + 12 * k)), .ref (ad (30 + k)), .ref (ad (40 + k))] : List Value).set 11 (.int v))) = zwX ad cI cJ cZ cO (zsI σ (19 + 12 * k) v) := z10 (P := fun k => (zwX ad cI cJ cZ cO σ).set (20 + k) (ad (20 + k), .inr (7, ([.int (σ.1 (8 + 12 * k)), .int (σ.1 (9 + 12 * k)), .int (σ.1 (10 + 12 * k)), .int (σ.1 (11 + 12 * k)), .int (σ.1 (12 + 12 * k)), .int (σ.1 (13 + 12 * k)), .int (σ.1 (14 + 12 * k)), .int (σ.1 (15 + 12 * k)), .int (σ.1 (16 + 12 * k)), .int (σ.1 (17 + 12 * k)), .int (σ.1 (18 + 12 * k)), .int (σ.1 (19 + 12 * k)), .ref (ad (30 + k)), .ref (ad (40 + k))] : List Value).set 11 (.int v))) = zwX ad cI cJ cZ cO (zsI σ (19 + 12 * k) v)) ⟨rfl, rfl, rfl, rfl, rfl, rfl, rfl, rfl, rfl, rfl⟩ hk
def zpl (j : Nat) : Nat := match j with
  | 1 => 13
  | 2 => 17
  | 3 => 18
  | _ => 19
def zln (j : Nat) : Nat := match j with
  | 3 => 360
  | _ => 1080
theorem zrow_at {j : Nat} (hj : j = 1 ∨ j = 2 ∨ j = 3) : (zwX ad cI cJ cZ cO σ)[zpl j]? = some (ad (zpl j), .inl (cJ, zln j, .inr (.inl (σ.2.2 j)))) := by rcases hj with rfl | rfl | rfl <;> rfl
theorem zrow_set {j : Nat} (hj : j = 1 ∨ j = 2 ∨ j = 3) : ∀ f : Nat → Int64, (zwX ad cI cJ cZ cO σ).set (zpl j) (ad (zpl j), .inl (cJ, zln j, .inr (.inl f))) = zwX ad cI cJ cZ cO (zsL σ j f) := by rcases hj with rfl | rfl | rfl <;> exact fun _ => rfl
end ZF
