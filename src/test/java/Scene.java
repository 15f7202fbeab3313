/** How an office is made: the same each time, so that an object needs no more calls than are promised. */
interface Scene {
    ChitWright make();
}
