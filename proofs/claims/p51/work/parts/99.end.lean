theorem p51_end : True := trivial
