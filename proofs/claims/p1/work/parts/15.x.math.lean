theorem eq45 (a d : Int32) : m_ap45 a d = fop a 45 d := sorry
