theorem ft_391 : True := trivial
