/** A run of calls, which can be made again on another new object. */
interface Calls {
    void on(BlindTables x);
}
