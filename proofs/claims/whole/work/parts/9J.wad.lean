def wAd (a c : Int) : Int := if c = 0 then a else 256 * a + c
