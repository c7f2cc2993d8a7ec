/** The names of the steps, in the order of their numbers. */
interface Steps {
    int END = 0;
    int TRY = 1;
    int CATCH = 2;
    int FINALLY = 3;
    int LOOP = 4;
    int LEAVE = 5;
    int RETURN = 6;
    int THROW = 7;
    int AGAIN = 8;
    int WRAP = 9;
    int TELL = 10;
    int IF = 11;
    int CALL = 12;
    int MAKE = 13;
    int DROP = 14;
    int COUNT = 15;
    int GET = 16;
    int PUT = 17;
    int FIT = 18;
    int SET = 19;
    int FINE = 20;
    int ROUGH = 21;
    int WHOLE = 22;
    int WIDE = 23;
    int NOTE = 24;
}
