/-! the class's reading: only bytes that are there count -/
section GTB
variable {B B' : Nat → Int32} {sz : Nat}
theorem pJoin_B (h : pAdv B sz = pAdv B' sz) (f : pS → pS) : pJoin B sz f = pJoin B' sz f := by
  funext q
  rw [pJoin, pJoin, h]
theorem pRk_B (h : pAdv B sz = pAdv B' sz) (one nt : pS → pS) : ∀ j, pRk B sz one nt j = pRk B' sz one nt j
  | 0 => rfl
  | j + 1 => by
    funext q
    rw [pRk, pRk, pRk_B h one nt j, pJoin_B h]
theorem pOn_B (h : pAdv B sz = pAdv B' sz) (m o : pS → pS) : pOn B sz m o = pOn B' sz m o := by
  funext q
  rw [pOn, pOn, h]
theorem pExp_B (h : pAdv B sz = pAdv B' sz) (w : Int32) : pExp w B sz = pExp w B' sz := by
  funext q
  rw [pExp, pExp, h]
theorem pD_B (h : pAdv B sz = pAdv B' sz) : ∀ d, pD B sz d = pD B' sz d
  | 0 => by rw [pD, pD, pOn_B h, funext (pRk_B h (pOn B' sz pFail pFail) pFail)]
  | d + 1 => by
    rw [pD, pD, pD_B h d, h, pExp_B h, pOn_B h]
    congr 1
    exact funext (pRk_B h _ _)
theorem gPart_B (h : pAdv B sz = pAdv B' sz) (rd : pS → pS) (w : Int32) : gPart rd B sz w = gPart rd B' sz w := by
  funext q
  rw [gPart, gPart, pExp_B h, pExp_B h]
theorem gT_B (h : pAdv B sz = pAdv B' sz) (rd : pS → pS) (q : pS) : gT1 rd B sz q = gT1 rd B' sz q ∧ gT2 rd B sz q = gT2 rd B' sz q ∧ gTx rd B sz q = gTx rd B' sz q := by
  have h1 : gT1 rd B sz q = gT1 rd B' sz q := by rw [gT1, gT1, gPart_B h, h]
  have h2 : gT2 rd B sz q = gT2 rd B' sz q := by rw [gT2, gT2, gPart_B h, h1]
  have h3 : gT3 rd B sz q = gT3 rd B' sz q := by rw [gT3, gT3, gPart_B h, h2]
  exact ⟨h1, h2, by rw [gTx, gTx, h3]⟩
end GTB
