/-! 95g3c.layers -/
def HA (m : Mem) (R : ENV → Int) (a b n v : Int) : Int := (cHo R a b (m 14 a) (m 22 a) (m 13 b) n.toNat (m 20 (2 * a + m 21 a), m 20 (2 * a + 1 - m 21 a), v, m 15 11, m 21 a)).1