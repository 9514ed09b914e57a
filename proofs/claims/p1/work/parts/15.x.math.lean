theorem eq43 (a d : Int32) : m_ap43 a d = fop a 43 d := sorry
theorem eq45 (a d : Int32) : m_ap45 a d = fop a 45 d := sorry
theorem eq42 (a d : Int32) : m_ap42 a d = fop a 42 d := sorry
theorem eq47 (a d : Int32) : m_ap47 a d = fop a 47 d := sorry
theorem eq37 (a d : Int32) : m_ap37 a d = fop a 37 d := sorry
theorem eq60 (a d : Int32) : m_ap60 a d = fop a 60 d := sorry
theorem eq61 (a d : Int32) : m_ap61 a d = fop a 61 d := sorry
