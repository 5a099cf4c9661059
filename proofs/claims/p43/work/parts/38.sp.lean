/-! what each call answers, and what stands behind it: (0 or the exception's place, the value, the state) -/
abbrev OUT : Type := Nat × Int32 × TS
def adds (a s : Nat) : Nat → List Int32
  | 0 => []
  | k + 1 => adds a s k ++ [nI ((a + k * s) % 256)]
abbrev tF (τ : TS) (f : Int32) : List Int32 := τ.1.2 (ix f)
abbrev setF (τ : TS) (f : Int32) (bs : List Int32) : TS := ((τ.1.1, va_up τ.1.2 (ix f) bs), τ.2)
abbrev isF (τ : TS) (f : Int32) : Prop := inI f τ.1.1
def spFile (τ : TS) : OUT := if τ.1.1 < 6 then (0, nI τ.1.1, ((τ.1.1 + 1, τ.1.2), τ.2)) else (1, 0, τ)
def spAdd (τ : TS) (f a s m : Int32) : OUT :=
  if isF τ f then if rgI a (nI 0) (nI 255) ∧ rgI s (nI 0) (nI 255) ∧ rgI m (nI 1) (nI 120) then if (tF τ f).length + ix m ≤ 120 then (0, nI ((tF τ f).length + ix m), setF τ f (tF τ f ++ adds (ix a) (ix s) (ix m))) else (3, 0, τ) else (2, 0, τ) else (1, 0, τ)
def spInsert (τ : TS) (f p v : Int32) : OUT :=
  if isF τ f ∧ inI p ((tF τ f).length + 1) then if rgI v (nI 0) (nI 255) then if (tF τ f).length < 120 then (0, nI ((tF τ f).length + 1), setF τ f ((tF τ f).take (ix p) ++ v :: (tF τ f).drop (ix p))) else (3, 0, τ) else (2, 0, τ) else (1, 0, τ)
def spRemove (τ : TS) (f p m : Int32) : OUT :=
  if isF τ f ∧ inI p ((tF τ f).length + 1) then if rgI m (nI 0) (nI ((tF τ f).length - ix p)) then (0, nI ((tF τ f).length - ix m), setF τ f ((tF τ f).take (ix p) ++ (tF τ f).drop (ix p + ix m))) else (2, 0, τ) else (1, 0, τ)
def spCopy (τ : TS) (a b : Int32) : OUT := if isF τ a ∧ isF τ b then (0, 0, setF τ b (tF τ a)) else (1, 0, τ)
def spLength (τ : TS) (f : Int32) : OUT := if isF τ f then (0, nI (tF τ f).length, τ) else (1, 0, τ)
def spByteAt (τ : TS) (f p : Int32) : OUT := if isF τ f ∧ inI p (tF τ f).length then (0, (tF τ f).getD (ix p) 0, τ) else (1, 0, τ)
def spSame (τ : TS) (a b : Int32) : OUT := if isF τ a ∧ isF τ b then (0, am_b (tF τ a = tF τ b), τ) else (1, 0, τ)
abbrev tS (τ : TS) (g : Int32) : SG := τ.2.1 (ix g)
def spSign (τ : TS) (g f b d : Int32) : OUT :=
  if inI g 4 ∧ isF τ f then if rgI b (nI 1) (nI 7) ∧ rgI d (nI 1) (nI 4096) then (0, nI (sgN (true, ix b, ix d, tF τ f)), (τ.1, va_up τ.2.1 (ix g) (true, ix b, ix d, tF τ f), τ.2.2)) else (2, 0, τ) else (1, 0, τ)
def spBlocks (τ : TS) (g : Int32) : OUT := if inI g 4 then (0, nI (sgN (tS τ g)), τ) else (1, 0, τ)
def spWeak (τ : TS) (g b : Int32) : OUT := if inI g 4 ∧ inI b (sgN (tS τ g)) then (0, sgW (tS τ g) (ix b), τ) else (1, 0, τ)
def spStrong (τ : TS) (g b : Int32) : Nat × Int64 × TS := if inI g 4 ∧ inI b (sgN (tS τ g)) then (0, sgG (tS τ g) (ix b), τ) else (1, 0, τ)
abbrev tD (τ : TS) (d : Int32) : DL := τ.2.2.1 (ix d)
def spCompare (τ : TS) (d g f : Int32) : OUT :=
  if inI d 4 ∧ inI g 4 ∧ isF τ f then if (tS τ g).1 = true then (0, nI (cmpD (tS τ g) (tF τ f)).2.1.length, (τ.1, τ.2.1, va_up τ.2.2.1 (ix d) (cmpD (tS τ g) (tF τ f)), τ.2.2.2)) else (2, 0, τ) else (1, 0, τ)
def spInstr (τ : TS) (d : Int32) : OUT := if inI d 4 then (0, nI (tD τ d).2.1.length, τ) else (1, 0, τ)
abbrev isIn (τ : TS) (d i : Int32) : Prop := inI d 4 ∧ inI i (tD τ d).2.1.length
abbrev tI (τ : TS) (d i : Int32) : IN := (tD τ d).2.1.getD (ix i) dI
def spIsCopy (τ : TS) (d i : Int32) : OUT := if isIn τ d i then (0, b2i (tI τ d i).1, τ) else (1, 0, τ)
def spStart (τ : TS) (d i : Int32) : OUT := if isIn τ d i then (0, nI (tI τ d i).2.1, τ) else (1, 0, τ)
def spBytes (τ : TS) (d i : Int32) : OUT := if isIn τ d i then (0, nI (tI τ d i).2.2, τ) else (1, 0, τ)
def spCost (τ : TS) (d : Int32) : OUT := if inI d 4 then (0, nI (price (tD τ d).2.1), τ) else (1, 0, τ)
def spAlarms (τ : TS) (d : Int32) : OUT := if inI d 4 then (0, nI (tD τ d).2.2.1, τ) else (1, 0, τ)
def spApply (τ : TS) (d a b : Int32) : OUT :=
  if inI d 4 ∧ isF τ a ∧ isF τ b then if (tD τ d).1 = true ∧ fitB (tD τ d).2.1 (tF τ a).length = true then (0, nI (app (tD τ d).2.1 (tD τ d).2.2.2 (tF τ a)).length, setF τ b (app (tD τ d).2.1 (tD τ d).2.2.2 (tF τ a))) else (2, 0, τ) else (1, 0, τ)
abbrev tN (τ : TS) : Nat := τ.2.2.2.1.1
abbrev tV (τ : TS) (v : Int32) : VK := τ.2.2.2.1.2 (ix v)
abbrev setV (τ : TS) (n i : Nat) (v : VK) : TS := (τ.1, τ.2.1, τ.2.2.1, (n, va_up τ.2.2.2.1.2 i v), τ.2.2.2.2)
def spKeep (τ : TS) (f : Int32) : OUT := if isF τ f then if tN τ < 20 then (0, nI (tN τ), setV τ (tN τ + 1) (tN τ) (some (.inl (tF τ f)))) else (2, 0, τ) else (1, 0, τ)
def spKeepDelta (τ : TS) (f v b : Int32) : OUT :=
  if isF τ f ∧ inI v (tN τ) then if rgI b (nI 1) (nI 7) then if tN τ < 20 then match rbv τ.2.2.2.1.2 (ix v) with
    | .inl rb => (0, nI (tN τ), setV τ (tN τ + 1) (tN τ) (some (.inr (ix v, cmpD (true, ix b, 256, rb) (tF τ f)))))
    | .inr _ => (3, 0, τ)
  else (3, 0, τ) else (2, 0, τ) else (1, 0, τ)
def spLose (τ : TS) (v : Int32) : OUT := if inI v (tN τ) then (0, nI (held (tV τ v)), setV τ (tN τ) (ix v) none) else (1, 0, τ)
def spReplace (τ : TS) (v f : Int32) : OUT := if inI v (tN τ) ∧ isF τ f then (0, 0, setV τ (tN τ) (ix v) (some (.inl (tF τ f)))) else (1, 0, τ)
def spRebuild (τ : TS) (v f : Int32) : OUT :=
  if inI v (tN τ) ∧ isF τ f then match rbv τ.2.2.2.1.2 (ix v) with
    | .inl rb => (0, nI rb.length, setF τ f rb)
    | .inr _ => (2, 0, τ)
  else (1, 0, τ)
def spVersions (τ : TS) : OUT := (0, nI (tN τ), τ)
def spBrAt (τ : TS) (v : Int32) : OUT := if inI v (tN τ) then (0, (rbN (rbv τ.2.2.2.1.2 (ix v))).1, τ) else (1, 0, τ)
def spBrAfter (τ : TS) (v : Int32) : OUT := if inI v (tN τ) then (0, (rbN (rbv τ.2.2.2.1.2 (ix v))).2.1, τ) else (1, 0, τ)
def spReason (τ : TS) (v : Int32) : OUT := if inI v (tN τ) then (0, (rbN (rbv τ.2.2.2.1.2 (ix v))).2.2, τ) else (1, 0, τ)
def spHeldBy (τ : TS) (v : Int32) : OUT := if inI v (tN τ) then (0, nI (held (tV τ v)), τ) else (1, 0, τ)
abbrev tP (τ : TS) (p : Int32) : Option (List (List Int32)) := τ.2.2.2.2.2 (ix p)
abbrev setP (τ : TS) (i : Nat) (l : Option (List (List Int32))) : TS := (τ.1, τ.2.1, τ.2.2.1, τ.2.2.2.1, τ.2.2.2.2.1, va_up τ.2.2.2.2.2 i l)
abbrev isP (τ : TS) (p : Int32) : Prop := inI p 12 ∧ (tP τ p).isSome = true
def papN (P : PS) : Nat → Nat
  | 0 => 0
  | k + 1 => papN P k + if (P k).isSome then 1 else 0
def spCuts (τ : TS) (a b c : Int32) : OUT := if rgI a (nI 1) (nI 16) ∧ rgI b a (nI 40) ∧ rgI c (nI 1) (nI 64) then (0, 0, (τ.1, τ.2.1, τ.2.2.1, τ.2.2.2.1, (ix a, ix b, ix c), τ.2.2.2.2.2)) else (1, 0, τ)
def spStore (τ : TS) (f : Int32) : OUT :=
  if isF τ f then match lowest (fun i => (τ.2.2.2.2.2 i).isNone) 12 with
    | some p => (0, nI p, setP τ p (some (cs τ.2.2.2.2.1 (tF τ f) (tF τ f).length).1))
    | none => (2, 0, τ)
  else (1, 0, τ)
def spRelease (τ : TS) (p : Int32) : OUT := if isP τ p then (0, nI (goneP τ.2.2.2.2.2 (ix p)), setP τ (ix p) none) else (1, 0, τ)
abbrev tL (τ : TS) (p : Int32) : List (List Int32) := (tP τ p).getD []
def spFetch (τ : TS) (p f : Int32) : OUT := if isP τ p ∧ isF τ f then (0, nI (tL τ p).flatten.length, setF τ f (tL τ p).flatten) else (1, 0, τ)
def spPapers (τ : TS) : OUT := (0, nI (papN τ.2.2.2.2.2 12), τ)
abbrev tA (τ : TS) : List (List Int32) := allB τ.2.2.2.2.2 12
def spChunks (τ : TS) : OUT := (0, nI (fsum (fun _ => 1) (tA τ) (tA τ).length), τ)
def spHeldBytes (τ : TS) : OUT := (0, nI (fsum List.length (tA τ) (tA τ).length), τ)
def spParts (τ : TS) (p : Int32) : OUT := if isP τ p then (0, nI (tL τ p).length, τ) else (1, 0, τ)
abbrev isK (τ : TS) (p k : Int32) : Prop := isP τ p ∧ inI k (tL τ p).length
def spPartLen (τ : TS) (p k : Int32) : OUT := if isK τ p k then (0, nI ((tL τ p).getD (ix k) []).length, τ) else (1, 0, τ)
def spShared (τ : TS) (p k : Int32) : OUT := if isK τ p k then (0, nI (List.count ((tL τ p).getD (ix k) []) (tA τ)), τ) else (1, 0, τ)
/-! the contracts' form -/
def RP {α : Type} (w : α → Value) (G : AG) (M : AM) (x D : Nat) (sp : Nat × α × TS) (v : Option Value) (M' : AM) : Prop := sp.1 = 0 ∧ v = some (w sp.2.1) ∧ isRS G M' x D sp.2.2 ∧ KE M M' (fun q => (x ≤ q ∧ q < x + 271) ∨ D ≤ q)
def RPv (G : AG) (M : AM) (x D : Nat) (sp : OUT) (v : Option Value) (M' : AM) : Prop := sp.1 = 0 ∧ v = none ∧ isRS G M' x D sp.2.2 ∧ KE M M' (fun q => (x ≤ q ∧ q < x + 271) ∨ D ≤ q)
def RX {α : Type} (G : AG) (M : AM) (x D : Nat) (sp : Nat × α × TS) (c : Nat → String) (E : String) (M' : AM) : Prop := 0 < sp.1 ∧ E = c sp.1 ∧ isRS G M' x D sp.2.2 ∧ KE M M' (fun q => (x ≤ q ∧ q < x + 271) ∨ D ≤ q)
abbrev ecI : Nat → String := fun _ => exI
abbrev ecIA : Nat → String
  | 1 => exI
  | _ => exA
abbrev ecIS : Nat → String
  | 1 => exI
  | _ => exS
abbrev ecIAS : Nat → String
  | 1 => exI
  | 2 => exA
  | _ => exS
theorem RP.of {α : Type} {w : α → Value} {G : AG} {M M' : AM} {x D : Nat} {sp : Nat × α × TS} {r : α} {τ' : TS} (e : sp = (0, r, τ')) (h : isRS G M' x D τ') (hk : KE M M' (fun q => (x ≤ q ∧ q < x + 271) ∨ D ≤ q)) : RP w G M x D sp (some (w r)) M' := by
  subst e
  exact ⟨rfl, rfl, h, hk⟩
theorem RPv.of {G : AG} {M M' : AM} {x D : Nat} {sp : OUT} {r : Int32} {τ' : TS} (e : sp = (0, r, τ')) (h : isRS G M' x D τ') (hk : KE M M' (fun q => (x ≤ q ∧ q < x + 271) ∨ D ≤ q)) : RPv G M x D sp none M' := by
  subst e
  exact ⟨rfl, rfl, h, hk⟩
theorem RX.of {α : Type} {G : AG} {M M' : AM} {x D k : Nat} {sp : Nat × α × TS} {r : α} {τ : TS} {c : Nat → String} {E : String} (e : sp = (k, r, τ)) (h0 : 0 < k) (hE : E = c k) (h : isRS G M x D τ) (hM : M' = (M.1, none)) : RX G M x D sp c E M' := by
  subst e
  subst hM
  exact ⟨h0, hE, h.fg, fun q y hq _ => hq⟩
