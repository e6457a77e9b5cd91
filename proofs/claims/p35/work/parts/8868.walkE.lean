/-! ROW, REACH, VIEWS: both sides answer alike -/
section WKE
variable {f : Nat → Int32} {L L' : Nat → Bool} {N : Nat} {ok : Prop} {a b i n sn sn' r r' : Int32}
theorem m_D.two {F F' : Nat → Int32} {fr : Nat} (h : m_D L N fr F) (h' : m_D L' N fr F') (e : ∀ s, s < N → L s = L' s) : ∀ s, s < N → F s = F' s :=
  fun _ hs => (h.congrL e).eq h' hs
end WKE
