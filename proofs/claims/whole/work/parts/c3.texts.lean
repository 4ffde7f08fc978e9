/-! text, fault: for every x -/
section
variable {d n B W : Nat} {zK zM : Nat → Nat → Int32} {zl zlM : Nat → Nat → Int64}
theorem kw_f_text (h : kw_R n B W zK zM) (x : Int32) : kw_A (d + 120) 85 192 [some (.ref 0), some (.int x)] [some (.ref 0), some (.int x)] zK zM zl zlM := by
  by_cases h0 : x = 0
  · subst h0
    exact kw_f_text0 (d := d + 110) h
  · by_cases h1 : x = 1
    · subst h1
      exact kw_f_text1 h
    · exact kw_f_text2 h x h0 h1
theorem kw_f_fault (h : kw_R n B W zK zM) (x : Int32) : kw_A (d + 120) 84 190 [some (.ref 0), some (.int x), none] [some (.ref 0), some (.int x)] zK zM zl zlM := by
  by_cases h0 : x = 0
  · subst h0
    exact kw_f_fault0 (d := d + 112) h
  · by_cases h1 : x = 1
    · subst h1
      exact kw_f_fault1 h
    · exact kw_f_fault2 h x h0 h1
end
