/-! 98.j: the words of the throw -/
theorem mem_by {L big X : List Cond} (ps : List (Nat ⊕ Nat)) (h : L = ps.filterMap (fun i => match i with | .inl k => big[k]? | .inr k => X[k]?)) : ∀ w ∈ L, w ∈ big ∨ w ∈ X := by
  intro w hw
  rw [h] at hw
  obtain ⟨i, -, hi⟩ := List.mem_filterMap.mp hw
  match i, hi with
  | .inl k, hi => exact Or.inl (List.mem_of_getElem? hi)
  | .inr k, hi => exact Or.inr (List.mem_of_getElem? hi)
def NSE : String := "java/util/NoSuchElementException"
def nseN : List String := ["java/lang/RuntimeException", "java/lang/Exception"]
def nseX : List Cond := [Cond.castable NSE NSE, Cond.declares (Bundle.init0 "java/lang/RuntimeException"), Cond.declares (Bundle.init0 "java/lang/Exception"), Cond.declares (Bundle.init0 "java/lang/Throwable")]
theorem nse_hat : ∀ w ∈ vx_at0 RX7 285 NSE nseN, w ∈ wsL_law ∨ w ∈ nseX := mem_by [.inl 1687, .inl 1688, .inl 1689, .inl 1690, .inl 1691, .inl 1692, .inl 1693, .inl 1694, .inl 11, .inl 12, .inl 1697, .inl 1698, .inl 1699, .inl 1700, .inl 1701, .inl 1702, .inl 1703, .inl 1704, .inl 1705, .inl 1706, .inl 1707, .inl 1708, .inl 1709, .inl 1710, .inl 1711, .inl 1712, .inr 1, .inl 1712, .inl 1714, .inl 1715, .inl 1716, .inr 2, .inl 1716, .inl 1718, .inl 1719, .inl 1693, .inr 3, .inl 1721, .inl 1722, .inr 0, .inl 1723, .inl 1724, .inl 1725, .inl 1726, .inl 1727, .inl 1728, .inl 1729, .inl 1730, .inl 1731] (by decide +kernel)
theorem nse_k : Cond.classLink RX7 283 NSE ∈ wsL_law := List.mem_of_getElem? (i := 1526) (by decide +kernel)
theorem nse_i : Cond.initialized NSE ∈ wsL_law := List.mem_of_getElem? (i := 1527) (by decide +kernel)
theorem nse_f : Bundle.fit NSE = true := by decide +kernel
theorem nse_n : ∀ q ∈ nseN, Bundle.fit q = true := by decide +kernel
theorem nse_g : ∀ w ∈ Cond.classLink RX7 283 NSE :: Cond.initialized NSE :: vx_at0 RX7 285 NSE nseN, vx_ot w = true := List.all_eq_true.mp (by decide +kernel)
