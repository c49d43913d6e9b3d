section ENT
variable {σ : XS} {τ : MS}
def NAt (a : Int32) (V : Nat → Int32) : Nat → Int32 := upd (upd (upd V 8 a) 4 ((V 4 &&& (-8388608 : Int32)) ||| (((Int32.toUInt32 a >>> (Int32.toUInt32 (9 : Int32) &&& Int32.toUInt32 31)).toInt32) &&& (8388592 : Int32)))) 10 ((V 10 &&& (255 : Int32)) ||| (a &&& (-8192 : Int32)))
def NAa (a : Int32) (V : Nat → Int32) : Nat → Int32 := upd V 8 a
theorem xs_vself (σ : XS) : xs_values σ (x_values σ) = σ := by
  unfold xs_values x_values
  rfl
theorem ms_vself (τ : MS) : ms_sys τ (m_sys τ) = τ := by
  unfold ms_sys m_sys
  rfl
theorem na_tlb (σ : XS) {c : Int32} (hc : c = 1 ∨ c = 2 ∨ c = 3) (a : Int32) : f_SR_noteAddress σ c a = xs_values σ (NAt a (x_values σ)) := by
  have e : f_SR_noteAddress σ c a = f_SR_noteAddress_35 σ c a true := by
    rcases hc with rfl | rfl | rfl
    all_goals
      unfold f_SR_noteAddress
      simp (decide := true) only [reduceIte, zb, f_SR_noteAddress_15, f_SR_noteAddress_20]
  rw [e]
  simp (decide := true) only [f_SR_noteAddress_35, f_SR_noteAddress_c1, f_SR_noteAddress_43, f_SR_noteAddress_c2, i_SR_noteAddress_c3, zb, reduceIte, xv, xs_vv, c8, c4, c10, ctx4, NAt]
  rw [show wbI 4 = -8388608 by decide, pk_un (show 4 ≠ 8 by decide), pk_un (show 10 ≠ 4 by decide), pk_un (show 10 ≠ 8 by decide)]
theorem na_adr (σ : XS) {c : Int32} (hc : c = 4 ∨ c = 5) (a : Int32) : f_SR_noteAddress σ c a = xs_values σ (NAa a (x_values σ)) := by
  have e : f_SR_noteAddress σ c a = f_SR_noteAddress_35 σ c a false := by
    rcases hc with rfl | rfl
    all_goals
      unfold f_SR_noteAddress
      simp (decide := true) only [reduceIte, zb, f_SR_noteAddress_15, f_SR_noteAddress_20]
  rw [e]
  simp (decide := true) only [f_SR_noteAddress_35, f_SR_noteAddress_c1, f_SR_noteAddress_43, zb, reduceIte, c8, NAa]
theorem na_none (σ : XS) {c : Int32} (h1 : ¬ c = 1) (h2 : ¬ c = 2) (h3 : ¬ c = 3) (h4 : ¬ c = 4) (h5 : ¬ c = 5) (a : Int32) : f_SR_noteAddress σ c a = xs_values σ (x_values σ) := by
  rw [xs_vself]
  unfold f_SR_noteAddress
  simp (decide := true) only [if_neg h1, if_neg h2, if_neg h3, if_neg h4, if_neg h5, f_SR_noteAddress_20, f_SR_noteAddress_43, zb, reduceIte]
def vW (NA : (Nat → Int32) → Nat → Int32) (V : Nat → Int32) (cx : Int32) : Nat → Int32 := NA (upd V 13 ((V 13 &&& (-805306493 : Int32)) ||| cx))
def vZ (NA : (Nat → Int32) → Nat → Int32) (V : Nat → Int32) (cx : Int32) : Nat → Int32 := upd (vW NA V cx) 12 (vW NA V cx 12 ||| 2)
def tgt (first rf : Bool) : Int32 := if first && rf then -2147483648 else -2147483264
theorem e70 (σ : XS) {r c : Int32} (hcode : r &&& (15 : Int32) = c) (pc : Int32) (ds : Bool) (a : Int32) (v : Bool) {NA : (Nat → Int32) → Nat → Int32} (hNA : ∀ σ' : XS, f_SR_noteAddress σ' c a = xs_values σ' (NA (x_values σ'))) {rf : Bool} (hrf : f_FA_isRefill σ r = rf) : f_SR_enterFault_70 σ r pc ds a v = (xs_values σ (vZ NA (x_values σ) (((((r / (32 : Int32)) &&& (3 : Int32)) <<< ((28 : Int32) &&& 31))) ||| (c <<< ((2 : Int32) &&& 31)))), tgt v rf) := by
  have hrf2 : ∀ σ' : XS, f_FA_isRefill σ' r = rf := fun σ' => hrf
  have hcd : ∀ σ' : XS, f_FA_codeOf σ' r = c := fun σ' => hcode
  have hcop : ∀ σ' : XS, f_FA_coprocessorOf σ' r = (r / (32 : Int32)) &&& (3 : Int32) := fun σ' => rfl
  simp only [f_SR_enterFault_70, f_SR_enterFault_c3, f_SR_enterFault_c4, f_SR_enterFault_c5, hcd, hcop, hNA, hrf2, xv, xs_vv, c13, c12, Int32.or_assoc]
  unfold vZ vW tgt
  cases v <;> cases rf <;> simp (decide := true) only [zb, reduceIte, Bool.true_and, Bool.false_and, Bool.and_false, Bool.and_true]
def v1 (V : Nat → Int32) (pc : Int32) (ds first : Bool) : Nat → Int32 := if first then upd (upd V 14 (if ds then pc - 4 else pc)) 13 ((V 13 &&& (2147483647 : Int32)) ||| (if ds then (-2147483648 : Int32) else 0)) else V
theorem eF (σ : XS) {r c : Int32} (hcode : r &&& (15 : Int32) = c) (pc : Int32) (ds : Bool) (a : Int32) {NA : (Nat → Int32) → Nat → Int32} (hNA : ∀ σ' : XS, f_SR_noteAddress σ' c a = xs_values σ' (NA (x_values σ'))) {rf : Bool} (hrf : f_FA_isRefill σ r = rf) {first : Bool} (hfst : bt (x_values σ 12) 1 = !first) : f_SR_enterFault σ r pc ds a = (xs_values σ (vZ NA (v1 (x_values σ) pc ds first) (((((r / (32 : Int32)) &&& (3 : Int32)) <<< ((28 : Int32) &&& 31))) ||| (c <<< ((2 : Int32) &&& 31)))), tgt first rf) := by
  unfold f_SR_enterFault
  rw [c12]
  have hz := fz1 (x_values σ 12)
  cases first
  · rw [if_neg (fun q => by rw [hz.1 q] at hfst; exact absurd hfst (by decide))]
    simp (decide := true) only [f_SR_enterFault_17, zb, reduceIte]
    exact e70 σ hcode pc ds a false hNA hrf
  · rw [if_pos (hz.2 hfst)]
    have hrf2 : ∀ σ' : XS, f_FA_isRefill σ' r = rf := fun σ' => hrf
    cases ds
    · simp (decide := true) only [f_SR_enterFault_17, f_SR_enterFault_41, f_SR_enterFault_c1, f_SR_enterFault_68, f_SR_enterFault_c2, zb, reduceIte, c14, c13, xv, xs_vv]
      rw [e70 _ hcode pc false a true hNA (hrf2 _), xv, xs_vv, pk_un (show 13 ≠ 14 by decide)]
      rfl
    · simp (decide := true) only [f_SR_enterFault_17, f_SR_enterFault_41, f_SR_enterFault_c1, f_SR_enterFault_68, f_SR_enterFault_c2, zb, reduceIte, c14, c13, xv, xs_vv]
      rw [e70 _ hcode pc true a true hNA (hrf2 _), xv, xs_vv, pk_un (show 13 ≠ 14 by decide)]
      rfl
end ENT
