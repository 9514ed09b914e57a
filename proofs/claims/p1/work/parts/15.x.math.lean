theorem eq43 (a d : Int32) : m_ap43 a d = fop a 43 d := sorry
theorem eq45 (a d : Int32) : m_ap45 a d = fop a 45 d := sorry
